noncomputable def ki10_forget : List (Nat × Option (List Nat) × Nat × (List am_V → List am_C → Prop) × am_M) := []
noncomputable def kb10_forget : am_B := (kd10_forget, am_as kf10, hn_ty, fun _ => none, fun _ => none, am_as ki10_forget, fun _ => none, 5, 3, (some .int))
noncomputable def fn10_forget (s : hs) (p0 : Int32) : Int32 × hs := Classical.choose (⟨_, rfl⟩ : ∃ z : Int32 × hs, z = (if p0 < 0 then ((0 : Int32), (hu_thrown s (1 : Int32))) else (if p0 ≤ (7 : Int32) then (((hm_counts (hu_thrown s (0 : Int32))) (p0).toNatClampNeg), (ha_counts (hu_thrown s (0 : Int32)) ((p0).toNatClampNeg) (0 : Int32))) else ((0 : Int32), (hu_thrown s (1 : Int32))))))
theorem fq10_forget (s : hs) (p0 : Int32) : fn10_forget s p0 = (if p0 < 0 then ((0 : Int32), (hu_thrown s (1 : Int32))) else (if p0 ≤ (7 : Int32) then (((hm_counts (hu_thrown s (0 : Int32))) (p0).toNatClampNeg), (ha_counts (hu_thrown s (0 : Int32)) ((p0).toNatClampNeg) (0 : Int32))) else ((0 : Int32), (hu_thrown s (1 : Int32))))) := Classical.choose_spec (⟨_, rfl⟩ : ∃ z : Int32 × hs, z = (if p0 < 0 then ((0 : Int32), (hu_thrown s (1 : Int32))) else (if p0 ≤ (7 : Int32) then (((hm_counts (hu_thrown s (0 : Int32))) (p0).toNatClampNeg), (ha_counts (hu_thrown s (0 : Int32)) ((p0).toNatClampNeg) (0 : Int32))) else ((0 : Int32), (hu_thrown s (1 : Int32))))))
def wp10_forget (s : hs) (p0 : Int32) : Prop := ((p0 < 0 → True) ∧ (¬ p0 < 0 → ((p0 ≤ (7 : Int32) → (am_inb p0 8 = true ∧ (am_inb p0 8 = true))) ∧ (¬ p0 ≤ (7 : Int32) → True))))
set_option maxRecDepth 100000 in
set_option maxHeartbeats 4000000 in
theorem re10_forget (s : hs) (p0 : Int32) (hp : wp10_forget s p0) : am_lf (am_mk kb10_forget 0 0 22) [] (0, am_L0 [.inr (.inl 0), .inl p0] 3, [], (hm_w s), 0, 0) = some (some (.inl ((fn10_forget s p0).1)), (hm_w ((fn10_forget s p0).2))) := by
  unfold wp10_forget at hp
  refine am_lf_eq ?_
  generalize am_lf (am_mk kb10_forget 0 0 22) [] = kt
  refine am_if (c := p0 < 0) (fun h1 => ?_) (fun h1 => ?_)
  · refine am_sp (w' := (hm_w (hu_thrown s (1 : Int32)))) (kp_R_0_thrown s (1 : Int32)) ?_
    have e : fn10_forget s p0 = ((0 : Int32), (hu_thrown s (1 : Int32))) := by
      rw [fq10_forget]
      rw [if_pos h1]
    rw [e] <;> rfl
  · have q1 := hp.2 h1
    refine am_if (c := p0 ≤ (7 : Int32)) (fun h2 => ?_) (fun h2 => ?_)
    · have q2 := q1.1 h2
      refine am_sp (w' := (hm_w (hu_thrown s (0 : Int32)))) (kp_R_0_thrown s (0 : Int32)) ?_
      refine am_ci (c := am_inb p0 8 = true) q2.1 ?_
      refine am_ci (c := am_inb p0 8 = true) q2.2 ?_
      refine am_sp (w' := (hm_w (ha_counts (hu_thrown s (0 : Int32)) ((p0).toNatClampNeg) (0 : Int32)))) (kp_R_0_counts (hu_thrown s (0 : Int32)) ((p0).toNatClampNeg) (0 : Int32)) ?_
      have e : fn10_forget s p0 = (((hm_counts (hu_thrown s (0 : Int32))) (p0).toNatClampNeg), (ha_counts (hu_thrown s (0 : Int32)) ((p0).toNatClampNeg) (0 : Int32))) := by
        rw [fq10_forget]
        rw [if_neg h1, if_pos h2]
      rw [e] <;> rfl
    · refine am_sp (w' := (hm_w (hu_thrown s (1 : Int32)))) (kp_R_0_thrown s (1 : Int32)) ?_
      have e : fn10_forget s p0 = ((0 : Int32), (hu_thrown s (1 : Int32))) := by
        rw [fq10_forget]
        rw [if_neg h1, if_neg h2]
      rw [e] <;> rfl
abbrev pr10_forget : List am_V → List am_C → Prop := fun a w => ∃ (s : hs) (p0 : Int32), a = [.inr (.inl 0), .inl p0] ∧ w = (hm_w s) ∧ wp10_forget s p0
noncomputable def fm10_forget : am_M := fun a w => (fun (z : Int32 × hs) => (some (.inl (z.1)), (hm_w (z.2)), 0, 0)) (fn10_forget (hm_st w 0) (am_i (am_an a 1)))
theorem fe10_forget (s : hs) (p0 : Int32) : fm10_forget [.inr (.inl 0), .inl p0] (hm_w s) = (some (.inl ((fn10_forget s p0).1)), (hm_w ((fn10_forget s p0).2)), 0, 0) := rfl
set_option maxRecDepth 100000 in
set_option maxHeartbeats 4000000 in
theorem rn10_forget : ∀ (a : List am_V) (w : List am_C), pr10_forget a w → ∃ nq, am_ev (am_mk kb10_forget (fm10_forget a w).2.2.1 (fm10_forget a w).2.2.2 w.length) [] nq (0, am_L0 a 3, [], w, 0, 0) = some ((fm10_forget a w).1, (fm10_forget a w).2.1) := by
  rintro a w ⟨s, p0, rfl, rfl, hp⟩
  rw [fe10_forget s p0]
  exact am_lf_ev (re10_forget s p0 hp)
theorem rl10_forget : ∀ (a : List am_V) (w : List am_C), pr10_forget a w → a.length ≤ 3 := by
  rintro a w ⟨s, p0, rfl, rfl, hp⟩
  exact Nat.le_of_ble_eq_true rfl
theorem pa10_forget : ∀ a w, pr10_forget a w → ∃ q a' ci fs r, a = .inr (.inl q) :: a' ∧ w[q]? = some (.inr (ci, fs)) ∧ hn_cl[ci]? = some r ∧ r.1 = hn_R10 := by
  rintro a w ⟨s, p0, rfl, rfl, hp⟩
  exact ⟨0, _, 10, _, _, rfl, rfl, rfl, rfl⟩
set_option maxRecDepth 100000 in
set_option maxHeartbeats 4000000 in
theorem km10_forget {l : Launch} {E : (Nat → Prop) → State → Prop} {D : va_G} {ou : Nat → Nat} {ca : Nat → ClassId} (hE : am_EC E) : hg_Met l E D ou ca hy10_forget prog_12_method_52_code 3 (some .int) 0 pr10_forget fm10_forget := by
  refine am_met (B := kb10_forget) (cuts := []) (nt := 5) (by decide +kernel) rfl rfl (hg_tys_ok ca) ?_ (by decide) rl10_forget ?_ rn10_forget
  · exact fun t ht => List.mem_cons_of_mem _ (hg_arr t ht)
  · intro a w hp ad p e R s m args below meth c hR X hEs hnm
    have hR1 : 0 ≤ R.frames ∧ 0 ≤ R.locals := by rw [hR]; exact ⟨Nat.le_refl _, Nat.le_refl _⟩
    refine ⟨kd10_forget_ok, fun index ci fi mode hq => kf10_ok X.2.2.2.2.1 (index, ci, fi, mode) (am_as_mem hq), fun index ci fs hq => (am_no hq).elim, fun x v hq => (am_no hq).elim, ?_, fun o t n f hq => (am_no hq).elim, rfl, rfl, by rw [hR]; exact Nat.le_refl _, by rw [hR]; exact Nat.le_refl _⟩
    intro pc sel n0 pre0 f0 hq
    exact (am_no hq).elim
noncomputable def ki10_firstItem : List (Nat × Option (List Nat) × Nat × (List am_V → List am_C → Prop) × am_M) := []
noncomputable def kb10_firstItem : am_B := (kd10_firstItem, am_as kf10, hn_ty, fun _ => none, fun _ => none, am_as ki10_firstItem, fun _ => none, 5, 2, (some .int))
noncomputable def fn10_firstItem (s : hs) (p0 : Int32) : Int32 := Classical.choose (⟨_, rfl⟩ : ∃ z : Int32, z = (if ((hm_alone s) (p0).toNatClampNeg) < 0 then (if ((hm_counts s) (p0).toNatClampNeg) ≤ 0 then (-1 : Int32) else ((4 : Int32) * p0)) else ((hm_alone s) (p0).toNatClampNeg)))
theorem fq10_firstItem (s : hs) (p0 : Int32) : fn10_firstItem s p0 = (if ((hm_alone s) (p0).toNatClampNeg) < 0 then (if ((hm_counts s) (p0).toNatClampNeg) ≤ 0 then (-1 : Int32) else ((4 : Int32) * p0)) else ((hm_alone s) (p0).toNatClampNeg)) := Classical.choose_spec (⟨_, rfl⟩ : ∃ z : Int32, z = (if ((hm_alone s) (p0).toNatClampNeg) < 0 then (if ((hm_counts s) (p0).toNatClampNeg) ≤ 0 then (-1 : Int32) else ((4 : Int32) * p0)) else ((hm_alone s) (p0).toNatClampNeg)))
def wp10_firstItem (s : hs) (p0 : Int32) : Prop := (am_inb p0 8 = true ∧ ((((hm_alone s) (p0).toNatClampNeg) < 0 → (am_inb p0 8 = true)) ∧ (¬ ((hm_alone s) (p0).toNatClampNeg) < 0 → (am_inb p0 8 = true))))
set_option maxRecDepth 100000 in
set_option maxHeartbeats 4000000 in
theorem re10_firstItem (s : hs) (p0 : Int32) (hp : wp10_firstItem s p0) : am_lf (am_mk kb10_firstItem 0 0 22) [] (0, am_L0 [.inr (.inl 0), .inl p0] 2, [], (hm_w s), 0, 0) = some (some (.inl (fn10_firstItem s p0)), (hm_w s)) := by
  unfold wp10_firstItem at hp
  refine am_lf_eq ?_
  generalize am_lf (am_mk kb10_firstItem 0 0 22) [] = kt
  refine am_ci (c := am_inb p0 8 = true) hp.1 ?_
  refine am_if (c := ((hm_alone s) (p0).toNatClampNeg) < 0) (fun h1 => ?_) (fun h1 => ?_)
  · have q1 := hp.2.1 h1
    refine am_ci (c := am_inb p0 8 = true) q1 ?_
    refine am_if (c := ((hm_counts s) (p0).toNatClampNeg) ≤ 0) (fun h2 => ?_) (fun h2 => ?_)
    · have e : fn10_firstItem s p0 = (-1 : Int32) := by
        rw [fq10_firstItem]
        rw [if_pos h1, if_pos h2]
      rw [e] <;> rfl
    · have e : fn10_firstItem s p0 = ((4 : Int32) * p0) := by
        rw [fq10_firstItem]
        rw [if_pos h1, if_neg h2]
      rw [e] <;> rfl
  · have q1 := hp.2.2 h1
    refine am_ci (c := am_inb p0 8 = true) q1 ?_
    have e : fn10_firstItem s p0 = ((hm_alone s) (p0).toNatClampNeg) := by
      rw [fq10_firstItem]
      rw [if_neg h1]
    rw [e] <;> rfl
abbrev pr10_firstItem : List am_V → List am_C → Prop := fun a w => ∃ (s : hs) (p0 : Int32), a = [.inr (.inl 0), .inl p0] ∧ w = (hm_w s) ∧ wp10_firstItem s p0
noncomputable def fm10_firstItem : am_M := fun a w => (fun (z : Int32) => (some (.inl z), (hm_w (hm_st w 0)), 0, 0)) (fn10_firstItem (hm_st w 0) (am_i (am_an a 1)))
theorem fe10_firstItem (s : hs) (p0 : Int32) : fm10_firstItem [.inr (.inl 0), .inl p0] (hm_w s) = (some (.inl (fn10_firstItem s p0)), (hm_w s), 0, 0) := rfl
set_option maxRecDepth 100000 in
set_option maxHeartbeats 4000000 in
theorem rn10_firstItem : ∀ (a : List am_V) (w : List am_C), pr10_firstItem a w → ∃ nq, am_ev (am_mk kb10_firstItem (fm10_firstItem a w).2.2.1 (fm10_firstItem a w).2.2.2 w.length) [] nq (0, am_L0 a 2, [], w, 0, 0) = some ((fm10_firstItem a w).1, (fm10_firstItem a w).2.1) := by
  rintro a w ⟨s, p0, rfl, rfl, hp⟩
  rw [fe10_firstItem s p0]
  exact am_lf_ev (re10_firstItem s p0 hp)
theorem rl10_firstItem : ∀ (a : List am_V) (w : List am_C), pr10_firstItem a w → a.length ≤ 2 := by
  rintro a w ⟨s, p0, rfl, rfl, hp⟩
  exact Nat.le_of_ble_eq_true rfl
theorem pa10_firstItem : ∀ a w, pr10_firstItem a w → ∃ q a' ci fs r, a = .inr (.inl q) :: a' ∧ w[q]? = some (.inr (ci, fs)) ∧ hn_cl[ci]? = some r ∧ r.1 = hn_R10 := by
  rintro a w ⟨s, p0, rfl, rfl, hp⟩
  exact ⟨0, _, 10, _, _, rfl, rfl, rfl, rfl⟩
set_option maxRecDepth 100000 in
set_option maxHeartbeats 4000000 in
theorem km10_firstItem {l : Launch} {E : (Nat → Prop) → State → Prop} {D : va_G} {ou : Nat → Nat} {ca : Nat → ClassId} (hE : am_EC E) : hg_Met l E D ou ca hy10_firstItem prog_12_method_53_code 2 (some .int) 0 pr10_firstItem fm10_firstItem := by
  refine am_met (B := kb10_firstItem) (cuts := []) (nt := 5) (by decide +kernel) rfl rfl (hg_tys_ok ca) ?_ (by decide) rl10_firstItem ?_ rn10_firstItem
  · exact fun t ht => List.mem_cons_of_mem _ (hg_arr t ht)
  · intro a w hp ad p e R s m args below meth c hR X hEs hnm
    have hR1 : 0 ≤ R.frames ∧ 0 ≤ R.locals := by rw [hR]; exact ⟨Nat.le_refl _, Nat.le_refl _⟩
    refine ⟨kd10_firstItem_ok, fun index ci fi mode hq => kf10_ok X.2.2.2.2.1 (index, ci, fi, mode) (am_as_mem hq), fun index ci fs hq => (am_no hq).elim, fun x v hq => (am_no hq).elim, ?_, fun o t n f hq => (am_no hq).elim, rfl, rfl, by rw [hR]; exact Nat.le_refl _, by rw [hR]; exact Nat.le_refl _⟩
    intro pc sel n0 pre0 f0 hq
    exact (am_no hq).elim
noncomputable def ki10_put : List (Nat × Option (List Nat) × Nat × (List am_V → List am_C → Prop) × am_M) := []
noncomputable def kb10_put : am_B := (kd10_put, am_as kf10, hn_ty, fun _ => none, fun _ => none, am_as ki10_put, fun _ => none, 5, 2, none)
noncomputable def fn10_put (s : hs) (p0 : Int32) : hs := Classical.choose (⟨_, rfl⟩ : ∃ z : hs, z = (if (hm_full s) = 0 then (if (hm_size s) = (1000 : Int32) then (hu_full s (1 : Int32)) else (hu_size (ha_out (hu_full s (0 : Int32)) (((hm_size (hu_full s (0 : Int32)))).toNatClampNeg) (vp_nar .char p0)) ((hm_size (ha_out (hu_full s (0 : Int32)) (((hm_size (hu_full s (0 : Int32)))).toNatClampNeg) (vp_nar .char p0))) + (1 : Int32)))) else (hu_full s (1 : Int32))))
theorem fq10_put (s : hs) (p0 : Int32) : fn10_put s p0 = (if (hm_full s) = 0 then (if (hm_size s) = (1000 : Int32) then (hu_full s (1 : Int32)) else (hu_size (ha_out (hu_full s (0 : Int32)) (((hm_size (hu_full s (0 : Int32)))).toNatClampNeg) (vp_nar .char p0)) ((hm_size (ha_out (hu_full s (0 : Int32)) (((hm_size (hu_full s (0 : Int32)))).toNatClampNeg) (vp_nar .char p0))) + (1 : Int32)))) else (hu_full s (1 : Int32))) := Classical.choose_spec (⟨_, rfl⟩ : ∃ z : hs, z = (if (hm_full s) = 0 then (if (hm_size s) = (1000 : Int32) then (hu_full s (1 : Int32)) else (hu_size (ha_out (hu_full s (0 : Int32)) (((hm_size (hu_full s (0 : Int32)))).toNatClampNeg) (vp_nar .char p0)) ((hm_size (ha_out (hu_full s (0 : Int32)) (((hm_size (hu_full s (0 : Int32)))).toNatClampNeg) (vp_nar .char p0))) + (1 : Int32)))) else (hu_full s (1 : Int32))))
def wp10_put (s : hs) (p0 : Int32) : Prop := (((hm_full s) = 0 → (((hm_size s) = (1000 : Int32) → True) ∧ (¬ (hm_size s) = (1000 : Int32) → (am_inb (hm_size (hu_full s (0 : Int32))) 1000 = true)))) ∧ (¬ (hm_full s) = 0 → True))
set_option maxRecDepth 100000 in
set_option maxHeartbeats 4000000 in
theorem re10_put (s : hs) (p0 : Int32) (hp : wp10_put s p0) : am_lf (am_mk kb10_put 0 0 22) [] (0, am_L0 [.inr (.inl 0), .inl p0] 2, [], (hm_w s), 0, 0) = some (none, (hm_w (fn10_put s p0))) := by
  unfold wp10_put at hp
  refine am_lf_eq ?_
  generalize am_lf (am_mk kb10_put 0 0 22) [] = kt
  refine am_if (c := (hm_full s) = 0) (fun h1 => ?_) (fun h1 => ?_)
  · have q1 := hp.1 h1
    refine am_if (c := (hm_size s) = (1000 : Int32)) (fun h2 => ?_) (fun h2 => ?_)
    · refine am_sp (w' := (hm_w (hu_full s (1 : Int32)))) (kp_R_0_full s (1 : Int32)) ?_
      have e : fn10_put s p0 = (hu_full s (1 : Int32)) := by
        rw [fq10_put]
        rw [if_pos h1, if_pos h2]
      rw [e] <;> rfl
    · have q2 := q1.2 h2
      refine am_sp (w' := (hm_w (hu_full s (0 : Int32)))) (kp_R_0_full s (0 : Int32)) ?_
      refine am_ci (c := am_inb (hm_size (hu_full s (0 : Int32))) 1000 = true) q2 ?_
      refine am_sp (w' := (hm_w (ha_out (hu_full s (0 : Int32)) (((hm_size (hu_full s (0 : Int32)))).toNatClampNeg) (vp_nar .char p0)))) (kp_R_0_out (hu_full s (0 : Int32)) (((hm_size (hu_full s (0 : Int32)))).toNatClampNeg) (vp_nar .char p0)) ?_
      refine am_sp (w' := (hm_w (hu_size (ha_out (hu_full s (0 : Int32)) (((hm_size (hu_full s (0 : Int32)))).toNatClampNeg) (vp_nar .char p0)) ((hm_size (ha_out (hu_full s (0 : Int32)) (((hm_size (hu_full s (0 : Int32)))).toNatClampNeg) (vp_nar .char p0))) + (1 : Int32))))) (kp_R_0_size (ha_out (hu_full s (0 : Int32)) (((hm_size (hu_full s (0 : Int32)))).toNatClampNeg) (vp_nar .char p0)) ((hm_size (ha_out (hu_full s (0 : Int32)) (((hm_size (hu_full s (0 : Int32)))).toNatClampNeg) (vp_nar .char p0))) + (1 : Int32))) ?_
      have e : fn10_put s p0 = (hu_size (ha_out (hu_full s (0 : Int32)) (((hm_size (hu_full s (0 : Int32)))).toNatClampNeg) (vp_nar .char p0)) ((hm_size (ha_out (hu_full s (0 : Int32)) (((hm_size (hu_full s (0 : Int32)))).toNatClampNeg) (vp_nar .char p0))) + (1 : Int32))) := by
        rw [fq10_put]
        rw [if_pos h1, if_neg h2]
      rw [e] <;> rfl
  · refine am_sp (w' := (hm_w (hu_full s (1 : Int32)))) (kp_R_0_full s (1 : Int32)) ?_
    have e : fn10_put s p0 = (hu_full s (1 : Int32)) := by
      rw [fq10_put]
      rw [if_neg h1]
    rw [e] <;> rfl
abbrev pr10_put : List am_V → List am_C → Prop := fun a w => ∃ (s : hs) (p0 : Int32), a = [.inr (.inl 0), .inl p0] ∧ w = (hm_w s) ∧ wp10_put s p0
noncomputable def fm10_put : am_M := fun a w => (fun (z : hs) => (none, (hm_w z), 0, 0)) (fn10_put (hm_st w 0) (am_i (am_an a 1)))
theorem fe10_put (s : hs) (p0 : Int32) : fm10_put [.inr (.inl 0), .inl p0] (hm_w s) = (none, (hm_w (fn10_put s p0)), 0, 0) := rfl
set_option maxRecDepth 100000 in
set_option maxHeartbeats 4000000 in
theorem rn10_put : ∀ (a : List am_V) (w : List am_C), pr10_put a w → ∃ nq, am_ev (am_mk kb10_put (fm10_put a w).2.2.1 (fm10_put a w).2.2.2 w.length) [] nq (0, am_L0 a 2, [], w, 0, 0) = some ((fm10_put a w).1, (fm10_put a w).2.1) := by
  rintro a w ⟨s, p0, rfl, rfl, hp⟩
  rw [fe10_put s p0]
  exact am_lf_ev (re10_put s p0 hp)
theorem rl10_put : ∀ (a : List am_V) (w : List am_C), pr10_put a w → a.length ≤ 2 := by
  rintro a w ⟨s, p0, rfl, rfl, hp⟩
  exact Nat.le_of_ble_eq_true rfl
theorem pa10_put : ∀ a w, pr10_put a w → ∃ q a' ci fs r, a = .inr (.inl q) :: a' ∧ w[q]? = some (.inr (ci, fs)) ∧ hn_cl[ci]? = some r ∧ r.1 = hn_R10 := by
  rintro a w ⟨s, p0, rfl, rfl, hp⟩
  exact ⟨0, _, 10, _, _, rfl, rfl, rfl, rfl⟩
set_option maxRecDepth 100000 in
set_option maxHeartbeats 4000000 in
theorem km10_put {l : Launch} {E : (Nat → Prop) → State → Prop} {D : va_G} {ou : Nat → Nat} {ca : Nat → ClassId} (hE : am_EC E) : hg_Met l E D ou ca hy10_put prog_12_method_54_code 2 none 0 pr10_put fm10_put := by
  refine am_met (B := kb10_put) (cuts := []) (nt := 5) (by decide +kernel) rfl rfl (hg_tys_ok ca) ?_ (by decide) rl10_put ?_ rn10_put
  · exact fun t ht => List.mem_cons_of_mem _ (hg_arr t ht)
  · intro a w hp ad p e R s m args below meth c hR X hEs hnm
    have hR1 : 0 ≤ R.frames ∧ 0 ≤ R.locals := by rw [hR]; exact ⟨Nat.le_refl _, Nat.le_refl _⟩
    refine ⟨kd10_put_ok, fun index ci fi mode hq => kf10_ok X.2.2.2.2.1 (index, ci, fi, mode) (am_as_mem hq), fun index ci fs hq => (am_no hq).elim, fun x v hq => (am_no hq).elim, ?_, fun o t n f hq => (am_no hq).elim, rfl, rfl, by rw [hR]; exact Nat.le_refl _, by rw [hR]; exact Nat.le_refl _⟩
    intro pc sel n0 pre0 f0 hq
    exact (am_no hq).elim
noncomputable def ki10_hex : List (Nat × Option (List Nat) × Nat × (List am_V → List am_C → Prop) × am_M) := []
noncomputable def kb10_hex : am_B := (kd10_hex, am_as kf10, hn_ty, fun _ => none, fun _ => none, am_as ki10_hex, fun _ => none, 5, 2, (some .char))
noncomputable def fn10_hex (s : hs) (p0 : Int32) : Int32 := Classical.choose (⟨_, rfl⟩ : ∃ z : Int32, z = (if (10 : Int32) ≤ p0 then ((((((65 : Int32) + p0) - (10 : Int32))).toUInt32 % 65536).toInt32) else (((((48 : Int32) + p0)).toUInt32 % 65536).toInt32)))
theorem fq10_hex (s : hs) (p0 : Int32) : fn10_hex s p0 = (if (10 : Int32) ≤ p0 then ((((((65 : Int32) + p0) - (10 : Int32))).toUInt32 % 65536).toInt32) else (((((48 : Int32) + p0)).toUInt32 % 65536).toInt32)) := Classical.choose_spec (⟨_, rfl⟩ : ∃ z : Int32, z = (if (10 : Int32) ≤ p0 then ((((((65 : Int32) + p0) - (10 : Int32))).toUInt32 % 65536).toInt32) else (((((48 : Int32) + p0)).toUInt32 % 65536).toInt32)))
def wp10_hex (s : hs) (p0 : Int32) : Prop := (((10 : Int32) ≤ p0 → (am_fit .char (.inl ((((((65 : Int32) + p0) - (10 : Int32))).toUInt32 % 65536).toInt32)) = true)) ∧ (¬ (10 : Int32) ≤ p0 → (am_fit .char (.inl (((((48 : Int32) + p0)).toUInt32 % 65536).toInt32)) = true)))
set_option maxRecDepth 100000 in
set_option maxHeartbeats 4000000 in
theorem re10_hex (s : hs) (p0 : Int32) (hp : wp10_hex s p0) : am_lf (am_mk kb10_hex 0 0 22) [] (0, am_L0 [.inr (.inl 0), .inl p0] 2, [], (hm_w s), 0, 0) = some (some (.inl (fn10_hex s p0)), (hm_w s)) := by
  unfold wp10_hex at hp
  refine am_lf_eq ?_
  generalize am_lf (am_mk kb10_hex 0 0 22) [] = kt
  refine am_if (c := (10 : Int32) ≤ p0) (fun h1 => ?_) (fun h1 => ?_)
  · have q1 := hp.1 h1
    refine am_ci (c := am_fit .char (.inl ((((((65 : Int32) + p0) - (10 : Int32))).toUInt32 % 65536).toInt32)) = true) q1 ?_
    have e : fn10_hex s p0 = ((((((65 : Int32) + p0) - (10 : Int32))).toUInt32 % 65536).toInt32) := by
      rw [fq10_hex]
      rw [if_pos h1]
    rw [e] <;> rfl
  · have q1 := hp.2 h1
    refine am_ci (c := am_fit .char (.inl (((((48 : Int32) + p0)).toUInt32 % 65536).toInt32)) = true) q1 ?_
    have e : fn10_hex s p0 = (((((48 : Int32) + p0)).toUInt32 % 65536).toInt32) := by
      rw [fq10_hex]
      rw [if_neg h1]
    rw [e] <;> rfl
abbrev pr10_hex : List am_V → List am_C → Prop := fun a w => ∃ (s : hs) (p0 : Int32), a = [.inr (.inl 0), .inl p0] ∧ w = (hm_w s) ∧ wp10_hex s p0
noncomputable def fm10_hex : am_M := fun a w => (fun (z : Int32) => (some (.inl z), (hm_w (hm_st w 0)), 0, 0)) (fn10_hex (hm_st w 0) (am_i (am_an a 1)))
theorem fe10_hex (s : hs) (p0 : Int32) : fm10_hex [.inr (.inl 0), .inl p0] (hm_w s) = (some (.inl (fn10_hex s p0)), (hm_w s), 0, 0) := rfl
set_option maxRecDepth 100000 in
set_option maxHeartbeats 4000000 in
theorem rn10_hex : ∀ (a : List am_V) (w : List am_C), pr10_hex a w → ∃ nq, am_ev (am_mk kb10_hex (fm10_hex a w).2.2.1 (fm10_hex a w).2.2.2 w.length) [] nq (0, am_L0 a 2, [], w, 0, 0) = some ((fm10_hex a w).1, (fm10_hex a w).2.1) := by
  rintro a w ⟨s, p0, rfl, rfl, hp⟩
  rw [fe10_hex s p0]
  exact am_lf_ev (re10_hex s p0 hp)
theorem rl10_hex : ∀ (a : List am_V) (w : List am_C), pr10_hex a w → a.length ≤ 2 := by
  rintro a w ⟨s, p0, rfl, rfl, hp⟩
  exact Nat.le_of_ble_eq_true rfl
theorem pa10_hex : ∀ a w, pr10_hex a w → ∃ q a' ci fs r, a = .inr (.inl q) :: a' ∧ w[q]? = some (.inr (ci, fs)) ∧ hn_cl[ci]? = some r ∧ r.1 = hn_R10 := by
  rintro a w ⟨s, p0, rfl, rfl, hp⟩
  exact ⟨0, _, 10, _, _, rfl, rfl, rfl, rfl⟩
set_option maxRecDepth 100000 in
set_option maxHeartbeats 4000000 in
theorem km10_hex {l : Launch} {E : (Nat → Prop) → State → Prop} {D : va_G} {ou : Nat → Nat} {ca : Nat → ClassId} (hE : am_EC E) : hg_Met l E D ou ca hy10_hex prog_12_method_55_code 2 (some .char) 0 pr10_hex fm10_hex := by
  refine am_met (B := kb10_hex) (cuts := []) (nt := 5) (by decide +kernel) rfl rfl (hg_tys_ok ca) ?_ (by decide) rl10_hex ?_ rn10_hex
  · exact fun t ht => List.mem_cons_of_mem _ (hg_arr t ht)
  · intro a w hp ad p e R s m args below meth c hR X hEs hnm
    have hR1 : 0 ≤ R.frames ∧ 0 ≤ R.locals := by rw [hR]; exact ⟨Nat.le_refl _, Nat.le_refl _⟩
    refine ⟨kd10_hex_ok, fun index ci fi mode hq => kf10_ok X.2.2.2.2.1 (index, ci, fi, mode) (am_as_mem hq), fun index ci fs hq => (am_no hq).elim, fun x v hq => (am_no hq).elim, ?_, fun o t n f hq => (am_no hq).elim, rfl, rfl, by rw [hR]; exact Nat.le_refl _, by rw [hR]; exact Nat.le_refl _⟩
    intro pc sel n0 pre0 f0 hq
    exact (am_no hq).elim
noncomputable def ki10_putHex : List (Nat × Option (List Nat) × Nat × (List am_V → List am_C → Prop) × am_M) := [(6, none, 2, pr10_hex, fm10_hex), (9, none, 2, pr10_put, fm10_put), (18, none, 2, pr10_hex, fm10_hex), (21, none, 2, pr10_put, fm10_put)]
noncomputable def kb10_putHex : am_B := (kd10_putHex, am_as kf10, hn_ty, fun _ => none, fun _ => none, am_as ki10_putHex, fun _ => none, 5, 2, none)
noncomputable def fn10_putHex (s : hs) (p0 : Int32) : hs := Classical.choose (⟨_, rfl⟩ : ∃ z : hs, z = (fn10_put (fn10_put s (fn10_hex s (p0 / (16 : Int32)))) (fn10_hex (fn10_put s (fn10_hex s (p0 / (16 : Int32)))) (p0 - p0 / (16 : Int32) * (16 : Int32)))))
theorem fq10_putHex (s : hs) (p0 : Int32) : fn10_putHex s p0 = (fn10_put (fn10_put s (fn10_hex s (p0 / (16 : Int32)))) (fn10_hex (fn10_put s (fn10_hex s (p0 / (16 : Int32)))) (p0 - p0 / (16 : Int32) * (16 : Int32)))) := Classical.choose_spec (⟨_, rfl⟩ : ∃ z : hs, z = (fn10_put (fn10_put s (fn10_hex s (p0 / (16 : Int32)))) (fn10_hex (fn10_put s (fn10_hex s (p0 / (16 : Int32)))) (p0 - p0 / (16 : Int32) * (16 : Int32)))))
def wp10_putHex (s : hs) (p0 : Int32) : Prop := ((wp10_hex s (p0 / (16 : Int32))) ∧ ((wp10_put s (fn10_hex s (p0 / (16 : Int32)))) ∧ ((wp10_hex (fn10_put s (fn10_hex s (p0 / (16 : Int32)))) (p0 - p0 / (16 : Int32) * (16 : Int32))) ∧ (wp10_put (fn10_put s (fn10_hex s (p0 / (16 : Int32)))) (fn10_hex (fn10_put s (fn10_hex s (p0 / (16 : Int32)))) (p0 - p0 / (16 : Int32) * (16 : Int32)))))))
set_option maxRecDepth 100000 in
set_option maxHeartbeats 4000000 in
theorem re10_putHex (s : hs) (p0 : Int32) (hp : wp10_putHex s p0) : am_lf (am_mk kb10_putHex 0 0 22) [] (0, am_L0 [.inr (.inl 0), .inl p0] 2, [], (hm_w s), 0, 0) = some (none, (hm_w (fn10_putHex s p0))) := by
  unfold wp10_putHex at hp
  refine am_lf_eq ?_
  generalize am_lf (am_mk kb10_putHex 0 0 22) [] = kt
  refine am_cx (pre := pr10_hex) (f := fm10_hex) (r := (some (.inl (fn10_hex s (p0 / (16 : Int32)))), (hm_w s), 0, 0)) ?_ ?_ ?_ ?_
  · exact ⟨s, (p0 / (16 : Int32)), rfl, rfl, hp.1⟩
  · exact fe10_hex s (p0 / (16 : Int32))
  · exact rfl
  refine am_cx (pre := pr10_put) (f := fm10_put) (r := (none, (hm_w (fn10_put s (fn10_hex s (p0 / (16 : Int32))))), 0, 0)) ?_ ?_ ?_ ?_
  · exact ⟨s, (fn10_hex s (p0 / (16 : Int32))), rfl, rfl, hp.2.1⟩
  · exact fe10_put s (fn10_hex s (p0 / (16 : Int32)))
  · exact rfl
  refine am_cx (pre := pr10_hex) (f := fm10_hex) (r := (some (.inl (fn10_hex (fn10_put s (fn10_hex s (p0 / (16 : Int32)))) (p0 - p0 / (16 : Int32) * (16 : Int32)))), (hm_w (fn10_put s (fn10_hex s (p0 / (16 : Int32))))), 0, 0)) ?_ ?_ ?_ ?_
  · exact ⟨(fn10_put s (fn10_hex s (p0 / (16 : Int32)))), (p0 - p0 / (16 : Int32) * (16 : Int32)), rfl, rfl, hp.2.2.1⟩
  · exact fe10_hex (fn10_put s (fn10_hex s (p0 / (16 : Int32)))) (p0 - p0 / (16 : Int32) * (16 : Int32))
  · exact rfl
  refine am_cx (pre := pr10_put) (f := fm10_put) (r := (none, (hm_w (fn10_put (fn10_put s (fn10_hex s (p0 / (16 : Int32)))) (fn10_hex (fn10_put s (fn10_hex s (p0 / (16 : Int32)))) (p0 - p0 / (16 : Int32) * (16 : Int32))))), 0, 0)) ?_ ?_ ?_ ?_
  · exact ⟨(fn10_put s (fn10_hex s (p0 / (16 : Int32)))), (fn10_hex (fn10_put s (fn10_hex s (p0 / (16 : Int32)))) (p0 - p0 / (16 : Int32) * (16 : Int32))), rfl, rfl, hp.2.2.2⟩
  · exact fe10_put (fn10_put s (fn10_hex s (p0 / (16 : Int32)))) (fn10_hex (fn10_put s (fn10_hex s (p0 / (16 : Int32)))) (p0 - p0 / (16 : Int32) * (16 : Int32)))
  · exact rfl
  have e : fn10_putHex s p0 = (fn10_put (fn10_put s (fn10_hex s (p0 / (16 : Int32)))) (fn10_hex (fn10_put s (fn10_hex s (p0 / (16 : Int32)))) (p0 - p0 / (16 : Int32) * (16 : Int32)))) := by
    rw [fq10_putHex]
  rw [e] <;> rfl
abbrev pr10_putHex : List am_V → List am_C → Prop := fun a w => ∃ (s : hs) (p0 : Int32), a = [.inr (.inl 0), .inl p0] ∧ w = (hm_w s) ∧ wp10_putHex s p0
noncomputable def fm10_putHex : am_M := fun a w => (fun (z : hs) => (none, (hm_w z), 0, 0)) (fn10_putHex (hm_st w 0) (am_i (am_an a 1)))
theorem fe10_putHex (s : hs) (p0 : Int32) : fm10_putHex [.inr (.inl 0), .inl p0] (hm_w s) = (none, (hm_w (fn10_putHex s p0)), 0, 0) := rfl
set_option maxRecDepth 100000 in
set_option maxHeartbeats 4000000 in
theorem rn10_putHex : ∀ (a : List am_V) (w : List am_C), pr10_putHex a w → ∃ nq, am_ev (am_mk kb10_putHex (fm10_putHex a w).2.2.1 (fm10_putHex a w).2.2.2 w.length) [] nq (0, am_L0 a 2, [], w, 0, 0) = some ((fm10_putHex a w).1, (fm10_putHex a w).2.1) := by
  rintro a w ⟨s, p0, rfl, rfl, hp⟩
  rw [fe10_putHex s p0]
  exact am_lf_ev (re10_putHex s p0 hp)
theorem rl10_putHex : ∀ (a : List am_V) (w : List am_C), pr10_putHex a w → a.length ≤ 2 := by
  rintro a w ⟨s, p0, rfl, rfl, hp⟩
  exact Nat.le_of_ble_eq_true rfl
theorem pa10_putHex : ∀ a w, pr10_putHex a w → ∃ q a' ci fs r, a = .inr (.inl q) :: a' ∧ w[q]? = some (.inr (ci, fs)) ∧ hn_cl[ci]? = some r ∧ r.1 = hn_R10 := by
  rintro a w ⟨s, p0, rfl, rfl, hp⟩
  exact ⟨0, _, 10, _, _, rfl, rfl, rfl, rfl⟩
set_option maxRecDepth 100000 in
set_option maxHeartbeats 4000000 in
theorem km10_putHex {l : Launch} {E : (Nat → Prop) → State → Prop} {D : va_G} {ou : Nat → Nat} {ca : Nat → ClassId} (hE : am_EC E) : hg_Met l E D ou ca hy10_putHex prog_12_method_56_code 2 none 1 pr10_putHex fm10_putHex := by
  refine am_met (B := kb10_putHex) (cuts := []) (nt := 5) (by decide +kernel) rfl rfl (hg_tys_ok ca) ?_ (by decide) rl10_putHex ?_ rn10_putHex
  · exact fun t ht => List.mem_cons_of_mem _ (hg_arr t ht)
  · intro a w hp ad p e R s m args below meth c hR X hEs hnm
    have hR1 : 1 ≤ R.frames ∧ 40 ≤ R.locals := by rw [hR]; exact ⟨Nat.le_refl _, Nat.le_refl _⟩
    refine ⟨kd10_putHex_ok, fun index ci fi mode hq => kf10_ok X.2.2.2.2.1 (index, ci, fi, mode) (am_as_mem hq), fun index ci fs hq => (am_no hq).elim, fun x v hq => (am_no hq).elim, ?_, fun o t n f hq => (am_no hq).elim, rfl, rfl, by rw [hR]; exact Nat.le_refl _, by rw [hR]; exact Nat.le_refl _⟩
    intro pc sel n0 pre0 f0 hq
    have hz : ∀ q ∈ ki10_putHex, am_CK p l e R s m args below meth c D hn_cl (va_A (am_w ad ou ca w) s.heap.size) ou ca 2 q.1 q.2.2.1 q.2.2.2.1 q.2.2.2.2 := by
      refine am_allc (am_ck_V (n := 1) X hEs hE (km10_hex hE) (hg_good (gw_mem 1347 (by decide +kernel))) rfl (List.mem_cons_of_mem _ (gw_mem 76 (by decide +kernel))) (List.mem_cons_of_mem _ (gw_mem 1344 (by decide +kernel))) (List.mem_cons_of_mem _ (gw_mem 1346 (by decide +kernel))) (List.mem_cons_of_mem _ (gw_mem 62 (by decide +kernel))) pa10_hex (by decide +kernel) ⟨Nat.le_trans (by decide) hR1.1, Nat.le_trans (by decide) hR1.2⟩ (kd10_putHex_ok (6, .invokevirtual 256, 3) (List.mem_of_getElem? (i := 5) rfl))) (am_allc (am_ck_V (n := 1) X hEs hE (km10_put hE) (hg_good (gw_mem 1292 (by decide +kernel))) rfl (List.mem_cons_of_mem _ (gw_mem 76 (by decide +kernel))) (List.mem_cons_of_mem _ (gw_mem 1289 (by decide +kernel))) (List.mem_cons_of_mem _ (gw_mem 1291 (by decide +kernel))) (List.mem_cons_of_mem _ (gw_mem 49 (by decide +kernel))) pa10_put (by decide +kernel) ⟨Nat.le_trans (by decide) hR1.1, Nat.le_trans (by decide) hR1.2⟩ (kd10_putHex_ok (9, .invokevirtual 259, 3) (List.mem_of_getElem? (i := 6) rfl))) (am_allc (am_ck_V (n := 1) X hEs hE (km10_hex hE) (hg_good (gw_mem 1347 (by decide +kernel))) rfl (List.mem_cons_of_mem _ (gw_mem 76 (by decide +kernel))) (List.mem_cons_of_mem _ (gw_mem 1344 (by decide +kernel))) (List.mem_cons_of_mem _ (gw_mem 1346 (by decide +kernel))) (List.mem_cons_of_mem _ (gw_mem 62 (by decide +kernel))) pa10_hex (by decide +kernel) ⟨Nat.le_trans (by decide) hR1.1, Nat.le_trans (by decide) hR1.2⟩ (kd10_putHex_ok (18, .invokevirtual 256, 3) (List.mem_of_getElem? (i := 12) rfl))) (am_allc (am_ck_V (n := 1) X hEs hE (km10_put hE) (hg_good (gw_mem 1292 (by decide +kernel))) rfl (List.mem_cons_of_mem _ (gw_mem 76 (by decide +kernel))) (List.mem_cons_of_mem _ (gw_mem 1289 (by decide +kernel))) (List.mem_cons_of_mem _ (gw_mem 1291 (by decide +kernel))) (List.mem_cons_of_mem _ (gw_mem 49 (by decide +kernel))) pa10_put (by decide +kernel) ⟨Nat.le_trans (by decide) hR1.1, Nat.le_trans (by decide) hR1.2⟩ (kd10_putHex_ok (21, .invokevirtual 259, 3) (List.mem_of_getElem? (i := 13) rfl))) (am_all0))))
    exact hz _ (am_as_mem hq)
noncomputable def ki10_put5 : List (Nat × Option (List Nat) × Nat × (List am_V → List am_C → Prop) × am_M) := [(2, none, 2, pr10_put, fm10_put), (7, none, 2, pr10_put, fm10_put), (12, none, 2, pr10_put, fm10_put), (18, none, 2, pr10_put, fm10_put), (29, none, 2, pr10_put, fm10_put)]
noncomputable def kb10_put5 : am_B := (kd10_put5, am_as kf10, hn_ty, fun _ => none, fun _ => none, am_as ki10_put5, fun _ => none, 5, 6, none)
noncomputable def fn10_put5_c21 (s : hs) (v5 : Int32) : hs := (if v5 = 0 then s else (fn10_put s v5))
def wp10_put5_c21 (s : hs) (v5 : Int32) : Prop := ((v5 = 0 → True) ∧ (¬ v5 = 0 → (wp10_put s v5)))
set_option maxRecDepth 100000 in
set_option maxHeartbeats 4000000 in
theorem rc10_put5_21 (s : hs) (v5 : Int32) (j1 : Option am_V) (j2 : Option am_V) (j3 : Option am_V) (j4 : Option am_V) (g1 : am_loO 22 j1 = true) (g2 : am_loO 22 j2 = true) (g3 : am_loO 22 j3 = true) (g4 : am_loO 22 j4 = true) (hp : wp10_put5_c21 s v5) : am_lf (am_mk kb10_put5 0 0 22) [5, 10, 15, 21] (21, [some (.inr (.inl 0)), j1, j2, j3, j4, some (.inl v5)], [], (hm_w s), 0, 0) = some (none, (hm_w (fn10_put5_c21 s v5))) := by
  unfold wp10_put5_c21 at hp
  refine am_lf_eq ?_
  generalize am_lf (am_mk kb10_put5 0 0 22) [5, 10, 15, 21] = kt
  refine am_if (c := v5 = 0) (fun h1 => ?_) (fun h1 => ?_)
  · have e : fn10_put5_c21 s v5 = s := by
      rw [fn10_put5_c21]
      rw [if_pos h1]
    rw [e] <;> rfl
  · have q1 := hp.2 h1
    refine am_cx (pre := pr10_put) (f := fm10_put) (r := (none, (hm_w (fn10_put s v5)), 0, 0)) ?_ ?_ ?_ ?_
    · exact ⟨s, v5, rfl, rfl, q1⟩
    · exact fe10_put s v5
    · exact (am_ac rfl (am_ac g1 (am_ac g2 (am_ac g3 (am_ac g4 (am_ac rfl am_a0))))))
    have e : fn10_put5_c21 s v5 = (fn10_put s v5) := by
      rw [fn10_put5_c21]
      rw [if_neg h1]
    rw [e] <;> rfl
noncomputable def fn10_put5_c15 (s : hs) (v4 : Int32) (v5 : Int32) : hs := (fn10_put5_c21 (fn10_put s v4) v5)
def wp10_put5_c15 (s : hs) (v4 : Int32) (v5 : Int32) : Prop := ((wp10_put s v4) ∧ (wp10_put5_c21 (fn10_put s v4) v5))
set_option maxRecDepth 100000 in
set_option maxHeartbeats 4000000 in
theorem rc10_put5_15 (s : hs) (v4 : Int32) (v5 : Int32) (j1 : Option am_V) (j2 : Option am_V) (j3 : Option am_V) (g1 : am_loO 22 j1 = true) (g2 : am_loO 22 j2 = true) (g3 : am_loO 22 j3 = true) (hp : wp10_put5_c15 s v4 v5) : am_lf (am_mk kb10_put5 0 0 22) [5, 10, 15, 21] (15, [some (.inr (.inl 0)), j1, j2, j3, some (.inl v4), some (.inl v5)], [], (hm_w s), 0, 0) = some (none, (hm_w (fn10_put5_c15 s v4 v5))) := by
  unfold wp10_put5_c15 at hp
  have i21 := @rc10_put5_21
  refine am_lf_eq ?_
  generalize am_lf (am_mk kb10_put5 0 0 22) [5, 10, 15, 21] = kt at i21 ⊢
  refine am_cx (pre := pr10_put) (f := fm10_put) (r := (none, (hm_w (fn10_put s v4)), 0, 0)) ?_ ?_ ?_ ?_
  · exact ⟨s, v4, rfl, rfl, hp.1⟩
  · exact fe10_put s v4
  · exact (am_ac rfl (am_ac g1 (am_ac g2 (am_ac g3 (am_ac rfl (am_ac rfl am_a0))))))
  have e : fn10_put5_c15 s v4 v5 = fn10_put5_c21 (fn10_put s v4) v5 := by
    rw [fn10_put5_c15]
  rw [e]
  exact i21 (fn10_put s v4) v5 _ _ _ _ g1 g2 g3 rfl hp.2
noncomputable def fn10_put5_c10 (s : hs) (v3 : Int32) (v4 : Int32) (v5 : Int32) : hs := (fn10_put5_c15 (fn10_put s v3) v4 v5)
def wp10_put5_c10 (s : hs) (v3 : Int32) (v4 : Int32) (v5 : Int32) : Prop := ((wp10_put s v3) ∧ (wp10_put5_c15 (fn10_put s v3) v4 v5))
set_option maxRecDepth 100000 in
set_option maxHeartbeats 4000000 in
theorem rc10_put5_10 (s : hs) (v3 : Int32) (v4 : Int32) (v5 : Int32) (j1 : Option am_V) (j2 : Option am_V) (g1 : am_loO 22 j1 = true) (g2 : am_loO 22 j2 = true) (hp : wp10_put5_c10 s v3 v4 v5) : am_lf (am_mk kb10_put5 0 0 22) [5, 10, 15, 21] (10, [some (.inr (.inl 0)), j1, j2, some (.inl v3), some (.inl v4), some (.inl v5)], [], (hm_w s), 0, 0) = some (none, (hm_w (fn10_put5_c10 s v3 v4 v5))) := by
  unfold wp10_put5_c10 at hp
  have i15 := @rc10_put5_15
  refine am_lf_eq ?_
  generalize am_lf (am_mk kb10_put5 0 0 22) [5, 10, 15, 21] = kt at i15 ⊢
  refine am_cx (pre := pr10_put) (f := fm10_put) (r := (none, (hm_w (fn10_put s v3)), 0, 0)) ?_ ?_ ?_ ?_
  · exact ⟨s, v3, rfl, rfl, hp.1⟩
  · exact fe10_put s v3
  · exact (am_ac rfl (am_ac g1 (am_ac g2 (am_ac rfl (am_ac rfl (am_ac rfl am_a0))))))
  have e : fn10_put5_c10 s v3 v4 v5 = fn10_put5_c15 (fn10_put s v3) v4 v5 := by
    rw [fn10_put5_c10]
  rw [e]
  exact i15 (fn10_put s v3) v4 v5 _ _ _ g1 g2 rfl hp.2
noncomputable def fn10_put5_c5 (s : hs) (v2 : Int32) (v3 : Int32) (v4 : Int32) (v5 : Int32) : hs := (fn10_put5_c10 (fn10_put s v2) v3 v4 v5)
def wp10_put5_c5 (s : hs) (v2 : Int32) (v3 : Int32) (v4 : Int32) (v5 : Int32) : Prop := ((wp10_put s v2) ∧ (wp10_put5_c10 (fn10_put s v2) v3 v4 v5))
set_option maxRecDepth 100000 in
set_option maxHeartbeats 4000000 in
theorem rc10_put5_5 (s : hs) (v2 : Int32) (v3 : Int32) (v4 : Int32) (v5 : Int32) (j1 : Option am_V) (g1 : am_loO 22 j1 = true) (hp : wp10_put5_c5 s v2 v3 v4 v5) : am_lf (am_mk kb10_put5 0 0 22) [5, 10, 15, 21] (5, [some (.inr (.inl 0)), j1, some (.inl v2), some (.inl v3), some (.inl v4), some (.inl v5)], [], (hm_w s), 0, 0) = some (none, (hm_w (fn10_put5_c5 s v2 v3 v4 v5))) := by
  unfold wp10_put5_c5 at hp
  have i10 := @rc10_put5_10
  refine am_lf_eq ?_
  generalize am_lf (am_mk kb10_put5 0 0 22) [5, 10, 15, 21] = kt at i10 ⊢
  refine am_cx (pre := pr10_put) (f := fm10_put) (r := (none, (hm_w (fn10_put s v2)), 0, 0)) ?_ ?_ ?_ ?_
  · exact ⟨s, v2, rfl, rfl, hp.1⟩
  · exact fe10_put s v2
  · exact (am_ac rfl (am_ac g1 (am_ac rfl (am_ac rfl (am_ac rfl (am_ac rfl am_a0))))))
  have e : fn10_put5_c5 s v2 v3 v4 v5 = fn10_put5_c10 (fn10_put s v2) v3 v4 v5 := by
    rw [fn10_put5_c5]
  rw [e]
  exact i10 (fn10_put s v2) v3 v4 v5 _ _ g1 rfl hp.2
noncomputable def fn10_put5 (s : hs) (p0 : Int32) (p1 : Int32) (p2 : Int32) (p3 : Int32) (p4 : Int32) : hs := Classical.choose (⟨_, rfl⟩ : ∃ z : hs, z = (fn10_put5_c5 (fn10_put s p0) p1 p2 p3 p4))
theorem fq10_put5 (s : hs) (p0 : Int32) (p1 : Int32) (p2 : Int32) (p3 : Int32) (p4 : Int32) : fn10_put5 s p0 p1 p2 p3 p4 = (fn10_put5_c5 (fn10_put s p0) p1 p2 p3 p4) := Classical.choose_spec (⟨_, rfl⟩ : ∃ z : hs, z = (fn10_put5_c5 (fn10_put s p0) p1 p2 p3 p4))
def wp10_put5 (s : hs) (p0 : Int32) (p1 : Int32) (p2 : Int32) (p3 : Int32) (p4 : Int32) : Prop := ((wp10_put s p0) ∧ (wp10_put5_c5 (fn10_put s p0) p1 p2 p3 p4))
set_option maxRecDepth 100000 in
set_option maxHeartbeats 4000000 in
theorem re10_put5 (s : hs) (p0 : Int32) (p1 : Int32) (p2 : Int32) (p3 : Int32) (p4 : Int32) (hp : wp10_put5 s p0 p1 p2 p3 p4) : am_lf (am_mk kb10_put5 0 0 22) [5, 10, 15, 21] (0, am_L0 [.inr (.inl 0), .inl p0, .inl p1, .inl p2, .inl p3, .inl p4] 6, [], (hm_w s), 0, 0) = some (none, (hm_w (fn10_put5 s p0 p1 p2 p3 p4))) := by
  unfold wp10_put5 at hp
  have i5 := @rc10_put5_5
  refine am_lf_eq ?_
  generalize am_lf (am_mk kb10_put5 0 0 22) [5, 10, 15, 21] = kt at i5 ⊢
  refine am_cx (pre := pr10_put) (f := fm10_put) (r := (none, (hm_w (fn10_put s p0)), 0, 0)) ?_ ?_ ?_ ?_
  · exact ⟨s, p0, rfl, rfl, hp.1⟩
  · exact fe10_put s p0
  · exact rfl
  have e : fn10_put5 s p0 p1 p2 p3 p4 = fn10_put5_c5 (fn10_put s p0) p1 p2 p3 p4 := by
    rw [fq10_put5]
  rw [e]
  exact i5 (fn10_put s p0) p1 p2 p3 p4 _ rfl hp.2
abbrev pr10_put5 : List am_V → List am_C → Prop := fun a w => ∃ (s : hs) (p0 : Int32) (p1 : Int32) (p2 : Int32) (p3 : Int32) (p4 : Int32), a = [.inr (.inl 0), .inl p0, .inl p1, .inl p2, .inl p3, .inl p4] ∧ w = (hm_w s) ∧ wp10_put5 s p0 p1 p2 p3 p4
noncomputable def fm10_put5 : am_M := fun a w => (fun (z : hs) => (none, (hm_w z), 0, 0)) (fn10_put5 (hm_st w 0) (am_i (am_an a 1)) (am_i (am_an a 2)) (am_i (am_an a 3)) (am_i (am_an a 4)) (am_i (am_an a 5)))
theorem fe10_put5 (s : hs) (p0 : Int32) (p1 : Int32) (p2 : Int32) (p3 : Int32) (p4 : Int32) : fm10_put5 [.inr (.inl 0), .inl p0, .inl p1, .inl p2, .inl p3, .inl p4] (hm_w s) = (none, (hm_w (fn10_put5 s p0 p1 p2 p3 p4)), 0, 0) := rfl
set_option maxRecDepth 100000 in
set_option maxHeartbeats 4000000 in
theorem rn10_put5 : ∀ (a : List am_V) (w : List am_C), pr10_put5 a w → ∃ nq, am_ev (am_mk kb10_put5 (fm10_put5 a w).2.2.1 (fm10_put5 a w).2.2.2 w.length) [5, 10, 15, 21] nq (0, am_L0 a 6, [], w, 0, 0) = some ((fm10_put5 a w).1, (fm10_put5 a w).2.1) := by
  rintro a w ⟨s, p0, p1, p2, p3, p4, rfl, rfl, hp⟩
  rw [fe10_put5 s p0 p1 p2 p3 p4]
  exact am_lf_ev (re10_put5 s p0 p1 p2 p3 p4 hp)
theorem rl10_put5 : ∀ (a : List am_V) (w : List am_C), pr10_put5 a w → a.length ≤ 6 := by
  rintro a w ⟨s, p0, p1, p2, p3, p4, rfl, rfl, hp⟩
  exact Nat.le_of_ble_eq_true rfl
theorem pa10_put5 : ∀ a w, pr10_put5 a w → ∃ q a' ci fs r, a = .inr (.inl q) :: a' ∧ w[q]? = some (.inr (ci, fs)) ∧ hn_cl[ci]? = some r ∧ r.1 = hn_R10 := by
  rintro a w ⟨s, p0, p1, p2, p3, p4, rfl, rfl, hp⟩
  exact ⟨0, _, 10, _, _, rfl, rfl, rfl, rfl⟩
set_option maxRecDepth 100000 in
set_option maxHeartbeats 4000000 in
theorem km10_put5 {l : Launch} {E : (Nat → Prop) → State → Prop} {D : va_G} {ou : Nat → Nat} {ca : Nat → ClassId} (hE : am_EC E) : hg_Met l E D ou ca hy10_put5 prog_12_method_57_code 6 none 1 pr10_put5 fm10_put5 := by
  refine am_met (B := kb10_put5) (cuts := [5, 10, 15, 21]) (nt := 5) (by decide +kernel) rfl rfl (hg_tys_ok ca) ?_ (by decide) rl10_put5 ?_ rn10_put5
  · exact fun t ht => List.mem_cons_of_mem _ (hg_arr t ht)
  · intro a w hp ad p e R s m args below meth c hR X hEs hnm
    have hR1 : 1 ≤ R.frames ∧ 40 ≤ R.locals := by rw [hR]; exact ⟨Nat.le_refl _, Nat.le_refl _⟩
    refine ⟨kd10_put5_ok, fun index ci fi mode hq => kf10_ok X.2.2.2.2.1 (index, ci, fi, mode) (am_as_mem hq), fun index ci fs hq => (am_no hq).elim, fun x v hq => (am_no hq).elim, ?_, fun o t n f hq => (am_no hq).elim, rfl, rfl, by rw [hR]; exact Nat.le_refl _, by rw [hR]; exact Nat.le_refl _⟩
    intro pc sel n0 pre0 f0 hq
    have hz : ∀ q ∈ ki10_put5, am_CK p l e R s m args below meth c D hn_cl (va_A (am_w ad ou ca w) s.heap.size) ou ca 6 q.1 q.2.2.1 q.2.2.2.1 q.2.2.2.2 := by
      refine am_allc (am_ck_V (n := 1) X hEs hE (km10_put hE) (hg_good (gw_mem 1292 (by decide +kernel))) rfl (List.mem_cons_of_mem _ (gw_mem 76 (by decide +kernel))) (List.mem_cons_of_mem _ (gw_mem 1289 (by decide +kernel))) (List.mem_cons_of_mem _ (gw_mem 1291 (by decide +kernel))) (List.mem_cons_of_mem _ (gw_mem 49 (by decide +kernel))) pa10_put (by decide +kernel) ⟨Nat.le_trans (by decide) hR1.1, Nat.le_trans (by decide) hR1.2⟩ (kd10_put5_ok (2, .invokevirtual 259, 3) (List.mem_of_getElem? (i := 2) rfl))) (am_allc (am_ck_V (n := 1) X hEs hE (km10_put hE) (hg_good (gw_mem 1292 (by decide +kernel))) rfl (List.mem_cons_of_mem _ (gw_mem 76 (by decide +kernel))) (List.mem_cons_of_mem _ (gw_mem 1289 (by decide +kernel))) (List.mem_cons_of_mem _ (gw_mem 1291 (by decide +kernel))) (List.mem_cons_of_mem _ (gw_mem 49 (by decide +kernel))) pa10_put (by decide +kernel) ⟨Nat.le_trans (by decide) hR1.1, Nat.le_trans (by decide) hR1.2⟩ (kd10_put5_ok (7, .invokevirtual 259, 3) (List.mem_of_getElem? (i := 5) rfl))) (am_allc (am_ck_V (n := 1) X hEs hE (km10_put hE) (hg_good (gw_mem 1292 (by decide +kernel))) rfl (List.mem_cons_of_mem _ (gw_mem 76 (by decide +kernel))) (List.mem_cons_of_mem _ (gw_mem 1289 (by decide +kernel))) (List.mem_cons_of_mem _ (gw_mem 1291 (by decide +kernel))) (List.mem_cons_of_mem _ (gw_mem 49 (by decide +kernel))) pa10_put (by decide +kernel) ⟨Nat.le_trans (by decide) hR1.1, Nat.le_trans (by decide) hR1.2⟩ (kd10_put5_ok (12, .invokevirtual 259, 3) (List.mem_of_getElem? (i := 8) rfl))) (am_allc (am_ck_V (n := 1) X hEs hE (km10_put hE) (hg_good (gw_mem 1292 (by decide +kernel))) rfl (List.mem_cons_of_mem _ (gw_mem 76 (by decide +kernel))) (List.mem_cons_of_mem _ (gw_mem 1289 (by decide +kernel))) (List.mem_cons_of_mem _ (gw_mem 1291 (by decide +kernel))) (List.mem_cons_of_mem _ (gw_mem 49 (by decide +kernel))) pa10_put (by decide +kernel) ⟨Nat.le_trans (by decide) hR1.1, Nat.le_trans (by decide) hR1.2⟩ (kd10_put5_ok (18, .invokevirtual 259, 3) (List.mem_of_getElem? (i := 11) rfl))) (am_allc (am_ck_V (n := 1) X hEs hE (km10_put hE) (hg_good (gw_mem 1292 (by decide +kernel))) rfl (List.mem_cons_of_mem _ (gw_mem 76 (by decide +kernel))) (List.mem_cons_of_mem _ (gw_mem 1289 (by decide +kernel))) (List.mem_cons_of_mem _ (gw_mem 1291 (by decide +kernel))) (List.mem_cons_of_mem _ (gw_mem 49 (by decide +kernel))) pa10_put (by decide +kernel) ⟨Nat.le_trans (by decide) hR1.1, Nat.le_trans (by decide) hR1.2⟩ (kd10_put5_ok (29, .invokevirtual 259, 3) (List.mem_of_getElem? (i := 16) rfl))) (am_all0)))))
    exact hz _ (am_as_mem hq)
noncomputable def ki10_putPlain : List (Nat × Option (List Nat) × Nat × (List am_V → List am_C → Prop) × am_M) := [(17, none, 6, pr10_put5, fm10_put5), (39, none, 6, pr10_put5, fm10_put5), (61, none, 6, pr10_put5, fm10_put5), (84, none, 6, pr10_put5, fm10_put5), (107, none, 6, pr10_put5, fm10_put5), (115, none, 2, pr10_put, fm10_put)]
noncomputable def kb10_putPlain : am_B := (kd10_putPlain, am_as kf10, hn_ty, fun _ => none, fun _ => none, am_as ki10_putPlain, fun _ => none, 5, 2, none)
noncomputable def fn10_putPlain (s : hs) (p0 : Int32) : hs := Classical.choose (⟨_, rfl⟩ : ∃ z : hs, z = (if p0 = (38 : Int32) then (fn10_put5 s (38 : Int32) (97 : Int32) (109 : Int32) (112 : Int32) (59 : Int32)) else (if p0 = (60 : Int32) then (fn10_put5 s (38 : Int32) (108 : Int32) (116 : Int32) (59 : Int32) (0 : Int32)) else (if p0 = (62 : Int32) then (fn10_put5 s (38 : Int32) (103 : Int32) (116 : Int32) (59 : Int32) (0 : Int32)) else (if p0 = (34 : Int32) then (fn10_put5 s (38 : Int32) (35 : Int32) (51 : Int32) (52 : Int32) (59 : Int32)) else (if p0 = (39 : Int32) then (fn10_put5 s (38 : Int32) (35 : Int32) (51 : Int32) (57 : Int32) (59 : Int32)) else (fn10_put s p0)))))))
theorem fq10_putPlain (s : hs) (p0 : Int32) : fn10_putPlain s p0 = (if p0 = (38 : Int32) then (fn10_put5 s (38 : Int32) (97 : Int32) (109 : Int32) (112 : Int32) (59 : Int32)) else (if p0 = (60 : Int32) then (fn10_put5 s (38 : Int32) (108 : Int32) (116 : Int32) (59 : Int32) (0 : Int32)) else (if p0 = (62 : Int32) then (fn10_put5 s (38 : Int32) (103 : Int32) (116 : Int32) (59 : Int32) (0 : Int32)) else (if p0 = (34 : Int32) then (fn10_put5 s (38 : Int32) (35 : Int32) (51 : Int32) (52 : Int32) (59 : Int32)) else (if p0 = (39 : Int32) then (fn10_put5 s (38 : Int32) (35 : Int32) (51 : Int32) (57 : Int32) (59 : Int32)) else (fn10_put s p0)))))) := Classical.choose_spec (⟨_, rfl⟩ : ∃ z : hs, z = (if p0 = (38 : Int32) then (fn10_put5 s (38 : Int32) (97 : Int32) (109 : Int32) (112 : Int32) (59 : Int32)) else (if p0 = (60 : Int32) then (fn10_put5 s (38 : Int32) (108 : Int32) (116 : Int32) (59 : Int32) (0 : Int32)) else (if p0 = (62 : Int32) then (fn10_put5 s (38 : Int32) (103 : Int32) (116 : Int32) (59 : Int32) (0 : Int32)) else (if p0 = (34 : Int32) then (fn10_put5 s (38 : Int32) (35 : Int32) (51 : Int32) (52 : Int32) (59 : Int32)) else (if p0 = (39 : Int32) then (fn10_put5 s (38 : Int32) (35 : Int32) (51 : Int32) (57 : Int32) (59 : Int32)) else (fn10_put s p0)))))))
def wp10_putPlain (s : hs) (p0 : Int32) : Prop := ((p0 = (38 : Int32) → (wp10_put5 s (38 : Int32) (97 : Int32) (109 : Int32) (112 : Int32) (59 : Int32))) ∧ (¬ p0 = (38 : Int32) → ((p0 = (60 : Int32) → (wp10_put5 s (38 : Int32) (108 : Int32) (116 : Int32) (59 : Int32) (0 : Int32))) ∧ (¬ p0 = (60 : Int32) → ((p0 = (62 : Int32) → (wp10_put5 s (38 : Int32) (103 : Int32) (116 : Int32) (59 : Int32) (0 : Int32))) ∧ (¬ p0 = (62 : Int32) → ((p0 = (34 : Int32) → (wp10_put5 s (38 : Int32) (35 : Int32) (51 : Int32) (52 : Int32) (59 : Int32))) ∧ (¬ p0 = (34 : Int32) → ((p0 = (39 : Int32) → (wp10_put5 s (38 : Int32) (35 : Int32) (51 : Int32) (57 : Int32) (59 : Int32))) ∧ (¬ p0 = (39 : Int32) → (wp10_put s p0)))))))))))
set_option maxRecDepth 100000 in
set_option maxHeartbeats 4000000 in
theorem re10_putPlain (s : hs) (p0 : Int32) (hp : wp10_putPlain s p0) : am_lf (am_mk kb10_putPlain 0 0 22) [] (0, am_L0 [.inr (.inl 0), .inl p0] 2, [], (hm_w s), 0, 0) = some (none, (hm_w (fn10_putPlain s p0))) := by
  unfold wp10_putPlain at hp
  refine am_lf_eq ?_
  generalize am_lf (am_mk kb10_putPlain 0 0 22) [] = kt
  refine am_if (c := p0 = (38 : Int32)) (fun h1 => ?_) (fun h1 => ?_)
  · have q1 := hp.1 h1
    refine am_cx (pre := pr10_put5) (f := fm10_put5) (r := (none, (hm_w (fn10_put5 s (38 : Int32) (97 : Int32) (109 : Int32) (112 : Int32) (59 : Int32))), 0, 0)) ?_ ?_ ?_ ?_
    · exact ⟨s, (38 : Int32), (97 : Int32), (109 : Int32), (112 : Int32), (59 : Int32), rfl, rfl, q1⟩
    · exact fe10_put5 s (38 : Int32) (97 : Int32) (109 : Int32) (112 : Int32) (59 : Int32)
    · exact rfl
    have e : fn10_putPlain s p0 = (fn10_put5 s (38 : Int32) (97 : Int32) (109 : Int32) (112 : Int32) (59 : Int32)) := by
      rw [fq10_putPlain]
      rw [if_pos h1]
    rw [e] <;> rfl
  · have q1 := hp.2 h1
    refine am_if (c := p0 = (60 : Int32)) (fun h2 => ?_) (fun h2 => ?_)
    · have q2 := q1.1 h2
      refine am_cx (pre := pr10_put5) (f := fm10_put5) (r := (none, (hm_w (fn10_put5 s (38 : Int32) (108 : Int32) (116 : Int32) (59 : Int32) (0 : Int32))), 0, 0)) ?_ ?_ ?_ ?_
      · exact ⟨s, (38 : Int32), (108 : Int32), (116 : Int32), (59 : Int32), (0 : Int32), rfl, rfl, q2⟩
      · exact fe10_put5 s (38 : Int32) (108 : Int32) (116 : Int32) (59 : Int32) (0 : Int32)
      · exact rfl
      have e : fn10_putPlain s p0 = (fn10_put5 s (38 : Int32) (108 : Int32) (116 : Int32) (59 : Int32) (0 : Int32)) := by
        rw [fq10_putPlain]
        rw [if_neg h1, if_pos h2]
      rw [e] <;> rfl
    · have q2 := q1.2 h2
      refine am_if (c := p0 = (62 : Int32)) (fun h3 => ?_) (fun h3 => ?_)
      · have q3 := q2.1 h3
        refine am_cx (pre := pr10_put5) (f := fm10_put5) (r := (none, (hm_w (fn10_put5 s (38 : Int32) (103 : Int32) (116 : Int32) (59 : Int32) (0 : Int32))), 0, 0)) ?_ ?_ ?_ ?_
        · exact ⟨s, (38 : Int32), (103 : Int32), (116 : Int32), (59 : Int32), (0 : Int32), rfl, rfl, q3⟩
        · exact fe10_put5 s (38 : Int32) (103 : Int32) (116 : Int32) (59 : Int32) (0 : Int32)
        · exact rfl
        have e : fn10_putPlain s p0 = (fn10_put5 s (38 : Int32) (103 : Int32) (116 : Int32) (59 : Int32) (0 : Int32)) := by
          rw [fq10_putPlain]
          rw [if_neg h1, if_neg h2, if_pos h3]
        rw [e] <;> rfl
      · have q3 := q2.2 h3
        refine am_if (c := p0 = (34 : Int32)) (fun h4 => ?_) (fun h4 => ?_)
        · have q4 := q3.1 h4
          refine am_cx (pre := pr10_put5) (f := fm10_put5) (r := (none, (hm_w (fn10_put5 s (38 : Int32) (35 : Int32) (51 : Int32) (52 : Int32) (59 : Int32))), 0, 0)) ?_ ?_ ?_ ?_
          · exact ⟨s, (38 : Int32), (35 : Int32), (51 : Int32), (52 : Int32), (59 : Int32), rfl, rfl, q4⟩
          · exact fe10_put5 s (38 : Int32) (35 : Int32) (51 : Int32) (52 : Int32) (59 : Int32)
          · exact rfl
          have e : fn10_putPlain s p0 = (fn10_put5 s (38 : Int32) (35 : Int32) (51 : Int32) (52 : Int32) (59 : Int32)) := by
            rw [fq10_putPlain]
            rw [if_neg h1, if_neg h2, if_neg h3, if_pos h4]
          rw [e] <;> rfl
        · have q4 := q3.2 h4
          refine am_if (c := p0 = (39 : Int32)) (fun h5 => ?_) (fun h5 => ?_)
          · have q5 := q4.1 h5
            refine am_cx (pre := pr10_put5) (f := fm10_put5) (r := (none, (hm_w (fn10_put5 s (38 : Int32) (35 : Int32) (51 : Int32) (57 : Int32) (59 : Int32))), 0, 0)) ?_ ?_ ?_ ?_
            · exact ⟨s, (38 : Int32), (35 : Int32), (51 : Int32), (57 : Int32), (59 : Int32), rfl, rfl, q5⟩
            · exact fe10_put5 s (38 : Int32) (35 : Int32) (51 : Int32) (57 : Int32) (59 : Int32)
            · exact rfl
            have e : fn10_putPlain s p0 = (fn10_put5 s (38 : Int32) (35 : Int32) (51 : Int32) (57 : Int32) (59 : Int32)) := by
              rw [fq10_putPlain]
              rw [if_neg h1, if_neg h2, if_neg h3, if_neg h4, if_pos h5]
            rw [e] <;> rfl
          · have q5 := q4.2 h5
            refine am_cx (pre := pr10_put) (f := fm10_put) (r := (none, (hm_w (fn10_put s p0)), 0, 0)) ?_ ?_ ?_ ?_
            · exact ⟨s, p0, rfl, rfl, q5⟩
            · exact fe10_put s p0
            · exact rfl
            have e : fn10_putPlain s p0 = (fn10_put s p0) := by
              rw [fq10_putPlain]
              rw [if_neg h1, if_neg h2, if_neg h3, if_neg h4, if_neg h5]
            rw [e] <;> rfl
abbrev pr10_putPlain : List am_V → List am_C → Prop := fun a w => ∃ (s : hs) (p0 : Int32), a = [.inr (.inl 0), .inl p0] ∧ w = (hm_w s) ∧ wp10_putPlain s p0
noncomputable def fm10_putPlain : am_M := fun a w => (fun (z : hs) => (none, (hm_w z), 0, 0)) (fn10_putPlain (hm_st w 0) (am_i (am_an a 1)))
theorem fe10_putPlain (s : hs) (p0 : Int32) : fm10_putPlain [.inr (.inl 0), .inl p0] (hm_w s) = (none, (hm_w (fn10_putPlain s p0)), 0, 0) := rfl
set_option maxRecDepth 100000 in
set_option maxHeartbeats 4000000 in
theorem rn10_putPlain : ∀ (a : List am_V) (w : List am_C), pr10_putPlain a w → ∃ nq, am_ev (am_mk kb10_putPlain (fm10_putPlain a w).2.2.1 (fm10_putPlain a w).2.2.2 w.length) [] nq (0, am_L0 a 2, [], w, 0, 0) = some ((fm10_putPlain a w).1, (fm10_putPlain a w).2.1) := by
  rintro a w ⟨s, p0, rfl, rfl, hp⟩
  rw [fe10_putPlain s p0]
  exact am_lf_ev (re10_putPlain s p0 hp)
theorem rl10_putPlain : ∀ (a : List am_V) (w : List am_C), pr10_putPlain a w → a.length ≤ 2 := by
  rintro a w ⟨s, p0, rfl, rfl, hp⟩
  exact Nat.le_of_ble_eq_true rfl
theorem pa10_putPlain : ∀ a w, pr10_putPlain a w → ∃ q a' ci fs r, a = .inr (.inl q) :: a' ∧ w[q]? = some (.inr (ci, fs)) ∧ hn_cl[ci]? = some r ∧ r.1 = hn_R10 := by
  rintro a w ⟨s, p0, rfl, rfl, hp⟩
  exact ⟨0, _, 10, _, _, rfl, rfl, rfl, rfl⟩
set_option maxRecDepth 100000 in
set_option maxHeartbeats 4000000 in
theorem km10_putPlain {l : Launch} {E : (Nat → Prop) → State → Prop} {D : va_G} {ou : Nat → Nat} {ca : Nat → ClassId} (hE : am_EC E) : hg_Met l E D ou ca hy10_putPlain prog_12_method_58_code 2 none 2 pr10_putPlain fm10_putPlain := by
  refine am_met (B := kb10_putPlain) (cuts := []) (nt := 5) (by decide +kernel) rfl rfl (hg_tys_ok ca) ?_ (by decide) rl10_putPlain ?_ rn10_putPlain
  · exact fun t ht => List.mem_cons_of_mem _ (hg_arr t ht)
  · intro a w hp ad p e R s m args below meth c hR X hEs hnm
    have hR1 : 2 ≤ R.frames ∧ 80 ≤ R.locals := by rw [hR]; exact ⟨Nat.le_refl _, Nat.le_refl _⟩
    refine ⟨kd10_putPlain_ok, fun index ci fi mode hq => kf10_ok X.2.2.2.2.1 (index, ci, fi, mode) (am_as_mem hq), fun index ci fs hq => (am_no hq).elim, fun x v hq => (am_no hq).elim, ?_, fun o t n f hq => (am_no hq).elim, rfl, rfl, by rw [hR]; exact Nat.le_refl _, by rw [hR]; exact Nat.le_refl _⟩
    intro pc sel n0 pre0 f0 hq
    have hz : ∀ q ∈ ki10_putPlain, am_CK p l e R s m args below meth c D hn_cl (va_A (am_w ad ou ca w) s.heap.size) ou ca 2 q.1 q.2.2.1 q.2.2.2.1 q.2.2.2.2 := by
      refine am_allc (am_ck_V (n := 5) X hEs hE (km10_put5 hE) (hg_good (gw_mem 1320 (by decide +kernel))) rfl (List.mem_cons_of_mem _ (gw_mem 76 (by decide +kernel))) (List.mem_cons_of_mem _ (gw_mem 1317 (by decide +kernel))) (List.mem_cons_of_mem _ (gw_mem 1319 (by decide +kernel))) (List.mem_cons_of_mem _ (gw_mem 56 (by decide +kernel))) pa10_put5 (by decide +kernel) ⟨Nat.le_trans (by decide) hR1.1, Nat.le_trans (by decide) hR1.2⟩ (kd10_putPlain_ok (17, .invokevirtual 263, 3) (List.mem_of_getElem? (i := 9) rfl))) (am_allc (am_ck_V (n := 5) X hEs hE (km10_put5 hE) (hg_good (gw_mem 1320 (by decide +kernel))) rfl (List.mem_cons_of_mem _ (gw_mem 76 (by decide +kernel))) (List.mem_cons_of_mem _ (gw_mem 1317 (by decide +kernel))) (List.mem_cons_of_mem _ (gw_mem 1319 (by decide +kernel))) (List.mem_cons_of_mem _ (gw_mem 56 (by decide +kernel))) pa10_put5 (by decide +kernel) ⟨Nat.le_trans (by decide) hR1.1, Nat.le_trans (by decide) hR1.2⟩ (kd10_putPlain_ok (39, .invokevirtual 263, 3) (List.mem_of_getElem? (i := 20) rfl))) (am_allc (am_ck_V (n := 5) X hEs hE (km10_put5 hE) (hg_good (gw_mem 1320 (by decide +kernel))) rfl (List.mem_cons_of_mem _ (gw_mem 76 (by decide +kernel))) (List.mem_cons_of_mem _ (gw_mem 1317 (by decide +kernel))) (List.mem_cons_of_mem _ (gw_mem 1319 (by decide +kernel))) (List.mem_cons_of_mem _ (gw_mem 56 (by decide +kernel))) pa10_put5 (by decide +kernel) ⟨Nat.le_trans (by decide) hR1.1, Nat.le_trans (by decide) hR1.2⟩ (kd10_putPlain_ok (61, .invokevirtual 263, 3) (List.mem_of_getElem? (i := 31) rfl))) (am_allc (am_ck_V (n := 5) X hEs hE (km10_put5 hE) (hg_good (gw_mem 1320 (by decide +kernel))) rfl (List.mem_cons_of_mem _ (gw_mem 76 (by decide +kernel))) (List.mem_cons_of_mem _ (gw_mem 1317 (by decide +kernel))) (List.mem_cons_of_mem _ (gw_mem 1319 (by decide +kernel))) (List.mem_cons_of_mem _ (gw_mem 56 (by decide +kernel))) pa10_put5 (by decide +kernel) ⟨Nat.le_trans (by decide) hR1.1, Nat.le_trans (by decide) hR1.2⟩ (kd10_putPlain_ok (84, .invokevirtual 263, 3) (List.mem_of_getElem? (i := 42) rfl))) (am_allc (am_ck_V (n := 5) X hEs hE (km10_put5 hE) (hg_good (gw_mem 1320 (by decide +kernel))) rfl (List.mem_cons_of_mem _ (gw_mem 76 (by decide +kernel))) (List.mem_cons_of_mem _ (gw_mem 1317 (by decide +kernel))) (List.mem_cons_of_mem _ (gw_mem 1319 (by decide +kernel))) (List.mem_cons_of_mem _ (gw_mem 56 (by decide +kernel))) pa10_put5 (by decide +kernel) ⟨Nat.le_trans (by decide) hR1.1, Nat.le_trans (by decide) hR1.2⟩ (kd10_putPlain_ok (107, .invokevirtual 263, 3) (List.mem_of_getElem? (i := 53) rfl))) (am_allc (am_ck_V (n := 1) X hEs hE (km10_put hE) (hg_good (gw_mem 1292 (by decide +kernel))) rfl (List.mem_cons_of_mem _ (gw_mem 76 (by decide +kernel))) (List.mem_cons_of_mem _ (gw_mem 1289 (by decide +kernel))) (List.mem_cons_of_mem _ (gw_mem 1291 (by decide +kernel))) (List.mem_cons_of_mem _ (gw_mem 49 (by decide +kernel))) pa10_put (by decide +kernel) ⟨Nat.le_trans (by decide) hR1.1, Nat.le_trans (by decide) hR1.2⟩ (kd10_putPlain_ok (115, .invokevirtual 259, 3) (List.mem_of_getElem? (i := 57) rfl))) (am_all0))))))
    exact hz _ (am_as_mem hq)
