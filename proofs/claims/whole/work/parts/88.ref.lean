noncomputable def ki10_readHole : List (Nat × Option (List Nat) × Nat × (List am_V → List am_C → Prop) × am_M) := [(1, none, 1, pr10_holeContext, fm10_holeContext)]
noncomputable def kb10_readHole : am_B := (kd10_readHole, am_as kf10, hn_ty, fun _ => none, fun _ => none, am_as ki10_readHole, fun _ => none, 5, 3, (some .boolean))
noncomputable def fn10_readHole_c38 (s : hs) (v2 : Int32) : Int32 × hs := (if v2 = (2 : Int32) then ((1 : Int32), (hu_part s (1 : Int32))) else ((1 : Int32), (hu_part s (hm_part s))))
def wp10_readHole_c38 (s : hs) (v2 : Int32) : Prop := True
set_option maxRecDepth 100000 in
set_option maxHeartbeats 4000000 in
theorem rc10_readHole_38 (s : hs) (v2 : Int32) (j1 : Option am_V) (g1 : am_loO 22 j1 = true) (hp : wp10_readHole_c38 s v2) : am_lf (am_mk kb10_readHole 0 0 22) [18, 28, 38] (38, [some (.inr (.inl 0)), j1, some (.inl v2)], [], (hm_w s), 0, 0) = some (some (.inl ((fn10_readHole_c38 s v2).1)), (hm_w ((fn10_readHole_c38 s v2).2))) := by
  unfold wp10_readHole_c38 at hp
  refine am_lf_eq ?_
  generalize am_lf (am_mk kb10_readHole 0 0 22) [18, 28, 38] = kt
  refine am_if (c := v2 = (2 : Int32)) (fun h1 => ?_) (fun h1 => ?_)
  · refine am_sp (w' := (hm_w (hu_part s (1 : Int32)))) (kp_R_0_part s (1 : Int32)) ?_
    have e : fn10_readHole_c38 s v2 = ((1 : Int32), (hu_part s (1 : Int32))) := by
      rw [fn10_readHole_c38]
      rw [if_pos h1]
    rw [e] <;> rfl
  · refine am_sp (w' := (hm_w (hu_part s (hm_part s)))) (kp_R_0_part s (hm_part s)) ?_
    have e : fn10_readHole_c38 s v2 = ((1 : Int32), (hu_part s (hm_part s))) := by
      rw [fn10_readHole_c38]
      rw [if_neg h1]
    rw [e] <;> rfl
noncomputable def fn10_readHole_c28 (s : hs) (v2 : Int32) : Int32 × hs := (fn10_readHole_c38 (hu_holes s ((hm_holes s) + (1 : Int32))) v2)
def wp10_readHole_c28 (s : hs) (v2 : Int32) : Prop := (wp10_readHole_c38 (hu_holes s ((hm_holes s) + (1 : Int32))) v2)
set_option maxRecDepth 100000 in
set_option maxHeartbeats 4000000 in
theorem rc10_readHole_28 (s : hs) (v2 : Int32) (j1 : Option am_V) (g1 : am_loO 22 j1 = true) (hp : wp10_readHole_c28 s v2) : am_lf (am_mk kb10_readHole 0 0 22) [18, 28, 38] (28, [some (.inr (.inl 0)), j1, some (.inl v2)], [], (hm_w s), 0, 0) = some (some (.inl ((fn10_readHole_c28 s v2).1)), (hm_w ((fn10_readHole_c28 s v2).2))) := by
  unfold wp10_readHole_c28 at hp
  have i38 := @rc10_readHole_38
  refine am_lf_eq ?_
  generalize am_lf (am_mk kb10_readHole 0 0 22) [18, 28, 38] = kt at i38 ⊢
  refine am_sp (w' := (hm_w (hu_holes s ((hm_holes s) + (1 : Int32))))) (kp_R_0_holes s ((hm_holes s) + (1 : Int32))) ?_
  have e : fn10_readHole_c28 s v2 = fn10_readHole_c38 (hu_holes s ((hm_holes s) + (1 : Int32))) v2 := by
    rw [fn10_readHole_c28]
  rw [e]
  exact i38 (hu_holes s ((hm_holes s) + (1 : Int32))) v2 _ g1 hp
noncomputable def fn10_readHole_c18 (s : hs) (v2 : Int32) : Int32 × hs := (fn10_readHole_c28 (ha_contexts s (((hm_holes s)).toNatClampNeg) v2) v2)
def wp10_readHole_c18 (s : hs) (v2 : Int32) : Prop := (am_inb (hm_holes s) 80 = true ∧ (wp10_readHole_c28 (ha_contexts s (((hm_holes s)).toNatClampNeg) v2) v2))
set_option maxRecDepth 100000 in
set_option maxHeartbeats 4000000 in
theorem rc10_readHole_18 (s : hs) (v2 : Int32) (j1 : Option am_V) (g1 : am_loO 22 j1 = true) (hp : wp10_readHole_c18 s v2) : am_lf (am_mk kb10_readHole 0 0 22) [18, 28, 38] (18, [some (.inr (.inl 0)), j1, some (.inl v2)], [], (hm_w s), 0, 0) = some (some (.inl ((fn10_readHole_c18 s v2).1)), (hm_w ((fn10_readHole_c18 s v2).2))) := by
  unfold wp10_readHole_c18 at hp
  have i28 := @rc10_readHole_28
  refine am_lf_eq ?_
  generalize am_lf (am_mk kb10_readHole 0 0 22) [18, 28, 38] = kt at i28 ⊢
  refine am_ci (c := am_inb (hm_holes s) 80 = true) hp.1 ?_
  refine am_sp (w' := (hm_w (ha_contexts s (((hm_holes s)).toNatClampNeg) v2))) (kp_R_0_contexts s (((hm_holes s)).toNatClampNeg) v2) ?_
  have e : fn10_readHole_c18 s v2 = fn10_readHole_c28 (ha_contexts s (((hm_holes s)).toNatClampNeg) v2) v2 := by
    rw [fn10_readHole_c18]
  rw [e]
  exact i28 (ha_contexts s (((hm_holes s)).toNatClampNeg) v2) v2 _ g1 hp.2
noncomputable def fn10_readHole (s : hs) (p0 : Int32) : Int32 × hs := Classical.choose (⟨_, rfl⟩ : ∃ z : Int32 × hs, z = (if 0 ≤ (fn10_holeContext s) then (fn10_readHole_c18 (ha_marked s ((p0).toNatClampNeg) (fn10_holeContext s)) (fn10_holeContext s)) else ((0 : Int32), s)))
theorem fq10_readHole (s : hs) (p0 : Int32) : fn10_readHole s p0 = (if 0 ≤ (fn10_holeContext s) then (fn10_readHole_c18 (ha_marked s ((p0).toNatClampNeg) (fn10_holeContext s)) (fn10_holeContext s)) else ((0 : Int32), s)) := Classical.choose_spec (⟨_, rfl⟩ : ∃ z : Int32 × hs, z = (if 0 ≤ (fn10_holeContext s) then (fn10_readHole_c18 (ha_marked s ((p0).toNatClampNeg) (fn10_holeContext s)) (fn10_holeContext s)) else ((0 : Int32), s)))
def wp10_readHole (s : hs) (p0 : Int32) : Prop := ((wp10_holeContext s) ∧ ((0 ≤ (fn10_holeContext s) → (am_inb p0 240 = true ∧ (wp10_readHole_c18 (ha_marked s ((p0).toNatClampNeg) (fn10_holeContext s)) (fn10_holeContext s)))) ∧ (¬ 0 ≤ (fn10_holeContext s) → True)))
set_option maxRecDepth 100000 in
set_option maxHeartbeats 4000000 in
theorem re10_readHole (s : hs) (p0 : Int32) (hp : wp10_readHole s p0) : am_lf (am_mk kb10_readHole 0 0 22) [18, 28, 38] (0, am_L0 [.inr (.inl 0), .inl p0] 3, [], (hm_w s), 0, 0) = some (some (.inl ((fn10_readHole s p0).1)), (hm_w ((fn10_readHole s p0).2))) := by
  unfold wp10_readHole at hp
  have i18 := @rc10_readHole_18
  refine am_lf_eq ?_
  generalize am_lf (am_mk kb10_readHole 0 0 22) [18, 28, 38] = kt at i18 ⊢
  refine am_cx (pre := pr10_holeContext) (f := fm10_holeContext) (r := (some (.inl (fn10_holeContext s)), (hm_w s), 0, 0)) ?_ ?_ ?_ ?_
  · exact ⟨s, rfl, rfl, hp.1⟩
  · exact fe10_holeContext s
  · exact rfl
  refine am_if (c := 0 ≤ (fn10_holeContext s)) (fun h1 => ?_) (fun h1 => ?_)
  · have q1 := hp.2.1 h1
    refine am_ci (c := am_inb p0 240 = true) q1.1 ?_
    refine am_sp (w' := (hm_w (ha_marked s ((p0).toNatClampNeg) (fn10_holeContext s)))) (kp_R_0_marked s ((p0).toNatClampNeg) (fn10_holeContext s)) ?_
    have e : fn10_readHole s p0 = fn10_readHole_c18 (ha_marked s ((p0).toNatClampNeg) (fn10_holeContext s)) (fn10_holeContext s) := by
      rw [fq10_readHole]
      rw [if_pos h1]
    rw [e]
    exact i18 (ha_marked s ((p0).toNatClampNeg) (fn10_holeContext s)) (fn10_holeContext s) _ rfl q1.2
  · have e : fn10_readHole s p0 = ((0 : Int32), s) := by
      rw [fq10_readHole]
      rw [if_neg h1]
    rw [e] <;> rfl
abbrev pr10_readHole : List am_V → List am_C → Prop := fun a w => ∃ (s : hs) (p0 : Int32), a = [.inr (.inl 0), .inl p0] ∧ w = (hm_w s) ∧ wp10_readHole s p0
noncomputable def fm10_readHole : am_M := fun a w => (fun (z : Int32 × hs) => (some (.inl (z.1)), (hm_w (z.2)), 0, 0)) (fn10_readHole (hm_st w 0) (am_i (am_an a 1)))
theorem fe10_readHole (s : hs) (p0 : Int32) : fm10_readHole [.inr (.inl 0), .inl p0] (hm_w s) = (some (.inl ((fn10_readHole s p0).1)), (hm_w ((fn10_readHole s p0).2)), 0, 0) := rfl
set_option maxRecDepth 100000 in
set_option maxHeartbeats 4000000 in
theorem rn10_readHole : ∀ (a : List am_V) (w : List am_C), pr10_readHole a w → ∃ nq, am_ev (am_mk kb10_readHole (fm10_readHole a w).2.2.1 (fm10_readHole a w).2.2.2 w.length) [18, 28, 38] nq (0, am_L0 a 3, [], w, 0, 0) = some ((fm10_readHole a w).1, (fm10_readHole a w).2.1) := by
  rintro a w ⟨s, p0, rfl, rfl, hp⟩
  rw [fe10_readHole s p0]
  exact am_lf_ev (re10_readHole s p0 hp)
theorem rl10_readHole : ∀ (a : List am_V) (w : List am_C), pr10_readHole a w → a.length ≤ 3 := by
  rintro a w ⟨s, p0, rfl, rfl, hp⟩
  exact Nat.le_of_ble_eq_true rfl
theorem pa10_readHole : ∀ a w, pr10_readHole a w → ∃ q a' ci fs r, a = .inr (.inl q) :: a' ∧ w[q]? = some (.inr (ci, fs)) ∧ hn_cl[ci]? = some r ∧ r.1 = hn_R10 := by
  rintro a w ⟨s, p0, rfl, rfl, hp⟩
  exact ⟨0, _, 10, _, _, rfl, rfl, rfl, rfl⟩
set_option maxRecDepth 100000 in
set_option maxHeartbeats 4000000 in
theorem km10_readHole {l : Launch} {E : (Nat → Prop) → State → Prop} {D : va_G} {ou : Nat → Nat} {ca : Nat → ClassId} (hE : am_EC E) : hg_Met l E D ou ca hy10_readHole prog_12_method_41_code 3 (some .boolean) 1 pr10_readHole fm10_readHole := by
  refine am_met (B := kb10_readHole) (cuts := [18, 28, 38]) (nt := 5) (by decide +kernel) rfl rfl (hg_tys_ok ca) ?_ (by decide) rl10_readHole ?_ rn10_readHole
  · exact fun t ht => List.mem_cons_of_mem _ (hg_arr t ht)
  · intro a w hp ad p e R s m args below meth c hR X hEs hnm
    have hR1 : 1 ≤ R.frames ∧ 40 ≤ R.locals := by rw [hR]; exact ⟨Nat.le_refl _, Nat.le_refl _⟩
    refine ⟨kd10_readHole_ok, fun index ci fi mode hq => kf10_ok X.2.2.2.2.1 (index, ci, fi, mode) (am_as_mem hq), fun index ci fs hq => (am_no hq).elim, fun x v hq => (am_no hq).elim, ?_, fun o t n f hq => (am_no hq).elim, rfl, rfl, by rw [hR]; exact Nat.le_refl _, by rw [hR]; exact Nat.le_refl _⟩
    intro pc sel n0 pre0 f0 hq
    have hz : ∀ q ∈ ki10_readHole, am_CK p l e R s m args below meth c D hn_cl (va_A (am_w ad ou ca w) s.heap.size) ou ca 3 q.1 q.2.2.1 q.2.2.2.1 q.2.2.2.2 := by
      refine am_allc (am_ck_V (n := 0) X hEs hE (km10_holeContext hE) (hg_good (gw_mem 1244 (by decide +kernel))) rfl (List.mem_cons_of_mem _ (gw_mem 76 (by decide +kernel))) (List.mem_cons_of_mem _ (gw_mem 1241 (by decide +kernel))) (List.mem_cons_of_mem _ (gw_mem 1243 (by decide +kernel))) (List.mem_cons_of_mem _ (gw_mem 43 (by decide +kernel))) pa10_holeContext (by decide +kernel) ⟨Nat.le_trans (by decide) hR1.1, Nat.le_trans (by decide) hR1.2⟩ (kd10_readHole_ok (1, .invokevirtual 209, 3) (List.mem_of_getElem? (i := 1) rfl))) (am_all0)
    exact hz _ (am_as_mem hq)
noncomputable def ki10_readOpening : List (Nat × Option (List Nat) × Nat × (List am_V → List am_C → Prop) × am_M) := [(30, none, 1, pr10_state, fm10_state), (43, none, 1, pr10_state, fm10_state)]
noncomputable def kb10_readOpening : am_B := (kd10_readOpening, am_as kf10, hn_ty, fun _ => none, fun _ => none, am_as ki10_readOpening, fun _ => none, 5, 2, (some .boolean))
noncomputable def fn10_readOpening_c64 (s : hs) : Int32 × hs := ((1 : Int32), (hu_open s ((hm_open s) + (1 : Int32))))
def wp10_readOpening_c64 (s : hs) : Prop := True
set_option maxRecDepth 100000 in
set_option maxHeartbeats 4000000 in
theorem rc10_readOpening_64 (s : hs) (j1 : Option am_V) (g1 : am_loO 22 j1 = true) (hp : wp10_readOpening_c64 s) : am_lf (am_mk kb10_readOpening 0 0 22) [21, 34, 47, 57, 64] (64, [some (.inr (.inl 0)), j1], [], (hm_w s), 0, 0) = some (some (.inl ((fn10_readOpening_c64 s).1)), (hm_w ((fn10_readOpening_c64 s).2))) := by
  unfold wp10_readOpening_c64 at hp
  refine am_lf_eq ?_
  generalize am_lf (am_mk kb10_readOpening 0 0 22) [21, 34, 47, 57, 64] = kt
  refine am_sp (w' := (hm_w (hu_open s ((hm_open s) + (1 : Int32))))) (kp_R_0_open s ((hm_open s) + (1 : Int32))) ?_
  have e : fn10_readOpening_c64 s = ((1 : Int32), (hu_open s ((hm_open s) + (1 : Int32)))) := by
    rw [fn10_readOpening_c64]
  rw [e] <;> rfl
noncomputable def fn10_readOpening_c57 (s : hs) (v1 : Int32) : Int32 × hs := (fn10_readOpening_c64 (ha_other s ((v1).toNatClampNeg) (-1 : Int32)))
def wp10_readOpening_c57 (s : hs) (v1 : Int32) : Prop := (am_inb v1 240 = true ∧ (wp10_readOpening_c64 (ha_other s ((v1).toNatClampNeg) (-1 : Int32))))
set_option maxRecDepth 100000 in
set_option maxHeartbeats 4000000 in
theorem rc10_readOpening_57 (s : hs) (v1 : Int32) (hp : wp10_readOpening_c57 s v1) : am_lf (am_mk kb10_readOpening 0 0 22) [21, 34, 47, 57, 64] (57, [some (.inr (.inl 0)), some (.inl v1)], [], (hm_w s), 0, 0) = some (some (.inl ((fn10_readOpening_c57 s v1).1)), (hm_w ((fn10_readOpening_c57 s v1).2))) := by
  unfold wp10_readOpening_c57 at hp
  have i64 := @rc10_readOpening_64
  refine am_lf_eq ?_
  generalize am_lf (am_mk kb10_readOpening 0 0 22) [21, 34, 47, 57, 64] = kt at i64 ⊢
  refine am_ci (c := am_inb v1 240 = true) hp.1 ?_
  refine am_sp (w' := (hm_w (ha_other s ((v1).toNatClampNeg) (-1 : Int32)))) (kp_R_0_other s ((v1).toNatClampNeg) (-1 : Int32)) ?_
  have e : fn10_readOpening_c57 s v1 = fn10_readOpening_c64 (ha_other s ((v1).toNatClampNeg) (-1 : Int32)) := by
    rw [fn10_readOpening_c57]
  rw [e]
  exact i64 (ha_other s ((v1).toNatClampNeg) (-1 : Int32)) _ rfl hp.2
noncomputable def fn10_readOpening_c47 (s : hs) (v1 : Int32) : Int32 × hs := (fn10_readOpening_c57 (ha_divided s (((hm_open s)).toNatClampNeg) (vp_nar .boolean (0 : Int32))) v1)
def wp10_readOpening_c47 (s : hs) (v1 : Int32) : Prop := (am_inb (hm_open s) 6 = true ∧ (wp10_readOpening_c57 (ha_divided s (((hm_open s)).toNatClampNeg) (vp_nar .boolean (0 : Int32))) v1))
set_option maxRecDepth 100000 in
set_option maxHeartbeats 4000000 in
theorem rc10_readOpening_47 (s : hs) (v1 : Int32) (hp : wp10_readOpening_c47 s v1) : am_lf (am_mk kb10_readOpening 0 0 22) [21, 34, 47, 57, 64] (47, [some (.inr (.inl 0)), some (.inl v1)], [], (hm_w s), 0, 0) = some (some (.inl ((fn10_readOpening_c47 s v1).1)), (hm_w ((fn10_readOpening_c47 s v1).2))) := by
  unfold wp10_readOpening_c47 at hp
  have i57 := @rc10_readOpening_57
  refine am_lf_eq ?_
  generalize am_lf (am_mk kb10_readOpening 0 0 22) [21, 34, 47, 57, 64] = kt at i57 ⊢
  refine am_ci (c := am_inb (hm_open s) 6 = true) hp.1 ?_
  refine am_sp (w' := (hm_w (ha_divided s (((hm_open s)).toNatClampNeg) (vp_nar .boolean (0 : Int32))))) (kp_R_0_divided s (((hm_open s)).toNatClampNeg) (vp_nar .boolean (0 : Int32))) ?_
  have e : fn10_readOpening_c47 s v1 = fn10_readOpening_c57 (ha_divided s (((hm_open s)).toNatClampNeg) (vp_nar .boolean (0 : Int32))) v1 := by
    rw [fn10_readOpening_c47]
  rw [e]
  exact i57 (ha_divided s (((hm_open s)).toNatClampNeg) (vp_nar .boolean (0 : Int32))) v1  hp.2
noncomputable def fn10_readOpening_c34 (s : hs) (v1 : Int32) : Int32 × hs := (fn10_readOpening_c47 (ha_ended s (((hm_open s)).toNatClampNeg) (fn10_state s)) v1)
def wp10_readOpening_c34 (s : hs) (v1 : Int32) : Prop := ((wp10_state s) ∧ (am_inb (hm_open s) 6 = true ∧ (wp10_readOpening_c47 (ha_ended s (((hm_open s)).toNatClampNeg) (fn10_state s)) v1)))
set_option maxRecDepth 100000 in
set_option maxHeartbeats 4000000 in
theorem rc10_readOpening_34 (s : hs) (v1 : Int32) (hp : wp10_readOpening_c34 s v1) : am_lf (am_mk kb10_readOpening 0 0 22) [21, 34, 47, 57, 64] (34, [some (.inr (.inl 0)), some (.inl v1)], [], (hm_w s), 0, 0) = some (some (.inl ((fn10_readOpening_c34 s v1).1)), (hm_w ((fn10_readOpening_c34 s v1).2))) := by
  unfold wp10_readOpening_c34 at hp
  have i47 := @rc10_readOpening_47
  refine am_lf_eq ?_
  generalize am_lf (am_mk kb10_readOpening 0 0 22) [21, 34, 47, 57, 64] = kt at i47 ⊢
  refine am_cx (pre := pr10_state) (f := fm10_state) (r := (some (.inl (fn10_state s)), (hm_w s), 0, 0)) ?_ ?_ ?_ ?_
  · exact ⟨s, rfl, rfl, hp.1⟩
  · exact fe10_state s
  · exact rfl
  refine am_ci (c := am_inb (hm_open s) 6 = true) hp.2.1 ?_
  refine am_sp (w' := (hm_w (ha_ended s (((hm_open s)).toNatClampNeg) (fn10_state s)))) (kp_R_0_ended s (((hm_open s)).toNatClampNeg) (fn10_state s)) ?_
  have e : fn10_readOpening_c34 s v1 = fn10_readOpening_c47 (ha_ended s (((hm_open s)).toNatClampNeg) (fn10_state s)) v1 := by
    rw [fn10_readOpening_c34]
  rw [e]
  exact i47 (ha_ended s (((hm_open s)).toNatClampNeg) (fn10_state s)) v1  hp.2.2
noncomputable def fn10_readOpening_c21 (s : hs) (v1 : Int32) : Int32 × hs := (fn10_readOpening_c34 (ha_before s (((hm_open s)).toNatClampNeg) (fn10_state s)) v1)
def wp10_readOpening_c21 (s : hs) (v1 : Int32) : Prop := ((wp10_state s) ∧ (am_inb (hm_open s) 6 = true ∧ (wp10_readOpening_c34 (ha_before s (((hm_open s)).toNatClampNeg) (fn10_state s)) v1)))
set_option maxRecDepth 100000 in
set_option maxHeartbeats 4000000 in
theorem rc10_readOpening_21 (s : hs) (v1 : Int32) (hp : wp10_readOpening_c21 s v1) : am_lf (am_mk kb10_readOpening 0 0 22) [21, 34, 47, 57, 64] (21, [some (.inr (.inl 0)), some (.inl v1)], [], (hm_w s), 0, 0) = some (some (.inl ((fn10_readOpening_c21 s v1).1)), (hm_w ((fn10_readOpening_c21 s v1).2))) := by
  unfold wp10_readOpening_c21 at hp
  have i34 := @rc10_readOpening_34
  refine am_lf_eq ?_
  generalize am_lf (am_mk kb10_readOpening 0 0 22) [21, 34, 47, 57, 64] = kt at i34 ⊢
  refine am_cx (pre := pr10_state) (f := fm10_state) (r := (some (.inl (fn10_state s)), (hm_w s), 0, 0)) ?_ ?_ ?_ ?_
  · exact ⟨s, rfl, rfl, hp.1⟩
  · exact fe10_state s
  · exact rfl
  refine am_ci (c := am_inb (hm_open s) 6 = true) hp.2.1 ?_
  refine am_sp (w' := (hm_w (ha_before s (((hm_open s)).toNatClampNeg) (fn10_state s)))) (kp_R_0_before s (((hm_open s)).toNatClampNeg) (fn10_state s)) ?_
  have e : fn10_readOpening_c21 s v1 = fn10_readOpening_c34 (ha_before s (((hm_open s)).toNatClampNeg) (fn10_state s)) v1 := by
    rw [fn10_readOpening_c21]
  rw [e]
  exact i34 (ha_before s (((hm_open s)).toNatClampNeg) (fn10_state s)) v1  hp.2.2
noncomputable def fn10_readOpening (s : hs) (p0 : Int32) : Int32 × hs := Classical.choose (⟨_, rfl⟩ : ∃ z : Int32 × hs, z = (if (hm_open s) = (6 : Int32) then ((0 : Int32), s) else (fn10_readOpening_c21 (ha_opened s (((hm_open s)).toNatClampNeg) p0) p0)))
theorem fq10_readOpening (s : hs) (p0 : Int32) : fn10_readOpening s p0 = (if (hm_open s) = (6 : Int32) then ((0 : Int32), s) else (fn10_readOpening_c21 (ha_opened s (((hm_open s)).toNatClampNeg) p0) p0)) := Classical.choose_spec (⟨_, rfl⟩ : ∃ z : Int32 × hs, z = (if (hm_open s) = (6 : Int32) then ((0 : Int32), s) else (fn10_readOpening_c21 (ha_opened s (((hm_open s)).toNatClampNeg) p0) p0)))
def wp10_readOpening (s : hs) (p0 : Int32) : Prop := (((hm_open s) = (6 : Int32) → True) ∧ (¬ (hm_open s) = (6 : Int32) → (am_inb (hm_open s) 6 = true ∧ (wp10_readOpening_c21 (ha_opened s (((hm_open s)).toNatClampNeg) p0) p0))))
set_option maxRecDepth 100000 in
set_option maxHeartbeats 4000000 in
theorem re10_readOpening (s : hs) (p0 : Int32) (hp : wp10_readOpening s p0) : am_lf (am_mk kb10_readOpening 0 0 22) [21, 34, 47, 57, 64] (0, am_L0 [.inr (.inl 0), .inl p0] 2, [], (hm_w s), 0, 0) = some (some (.inl ((fn10_readOpening s p0).1)), (hm_w ((fn10_readOpening s p0).2))) := by
  unfold wp10_readOpening at hp
  have i21 := @rc10_readOpening_21
  refine am_lf_eq ?_
  generalize am_lf (am_mk kb10_readOpening 0 0 22) [21, 34, 47, 57, 64] = kt at i21 ⊢
  refine am_if (c := (hm_open s) = (6 : Int32)) (fun h1 => ?_) (fun h1 => ?_)
  · have e : fn10_readOpening s p0 = ((0 : Int32), s) := by
      rw [fq10_readOpening]
      rw [if_pos h1]
    rw [e] <;> rfl
  · have q1 := hp.2 h1
    refine am_ci (c := am_inb (hm_open s) 6 = true) q1.1 ?_
    refine am_sp (w' := (hm_w (ha_opened s (((hm_open s)).toNatClampNeg) p0))) (kp_R_0_opened s (((hm_open s)).toNatClampNeg) p0) ?_
    have e : fn10_readOpening s p0 = fn10_readOpening_c21 (ha_opened s (((hm_open s)).toNatClampNeg) p0) p0 := by
      rw [fq10_readOpening]
      rw [if_neg h1]
    rw [e]
    exact i21 (ha_opened s (((hm_open s)).toNatClampNeg) p0) p0  q1.2
abbrev pr10_readOpening : List am_V → List am_C → Prop := fun a w => ∃ (s : hs) (p0 : Int32), a = [.inr (.inl 0), .inl p0] ∧ w = (hm_w s) ∧ wp10_readOpening s p0
noncomputable def fm10_readOpening : am_M := fun a w => (fun (z : Int32 × hs) => (some (.inl (z.1)), (hm_w (z.2)), 0, 0)) (fn10_readOpening (hm_st w 0) (am_i (am_an a 1)))
theorem fe10_readOpening (s : hs) (p0 : Int32) : fm10_readOpening [.inr (.inl 0), .inl p0] (hm_w s) = (some (.inl ((fn10_readOpening s p0).1)), (hm_w ((fn10_readOpening s p0).2)), 0, 0) := rfl
set_option maxRecDepth 100000 in
set_option maxHeartbeats 4000000 in
theorem rn10_readOpening : ∀ (a : List am_V) (w : List am_C), pr10_readOpening a w → ∃ nq, am_ev (am_mk kb10_readOpening (fm10_readOpening a w).2.2.1 (fm10_readOpening a w).2.2.2 w.length) [21, 34, 47, 57, 64] nq (0, am_L0 a 2, [], w, 0, 0) = some ((fm10_readOpening a w).1, (fm10_readOpening a w).2.1) := by
  rintro a w ⟨s, p0, rfl, rfl, hp⟩
  rw [fe10_readOpening s p0]
  exact am_lf_ev (re10_readOpening s p0 hp)
theorem rl10_readOpening : ∀ (a : List am_V) (w : List am_C), pr10_readOpening a w → a.length ≤ 2 := by
  rintro a w ⟨s, p0, rfl, rfl, hp⟩
  exact Nat.le_of_ble_eq_true rfl
theorem pa10_readOpening : ∀ a w, pr10_readOpening a w → ∃ q a' ci fs r, a = .inr (.inl q) :: a' ∧ w[q]? = some (.inr (ci, fs)) ∧ hn_cl[ci]? = some r ∧ r.1 = hn_R10 := by
  rintro a w ⟨s, p0, rfl, rfl, hp⟩
  exact ⟨0, _, 10, _, _, rfl, rfl, rfl, rfl⟩
set_option maxRecDepth 100000 in
set_option maxHeartbeats 4000000 in
theorem km10_readOpening {l : Launch} {E : (Nat → Prop) → State → Prop} {D : va_G} {ou : Nat → Nat} {ca : Nat → ClassId} (hE : am_EC E) : hg_Met l E D ou ca hy10_readOpening prog_12_method_42_code 2 (some .boolean) 1 pr10_readOpening fm10_readOpening := by
  refine am_met (B := kb10_readOpening) (cuts := [21, 34, 47, 57, 64]) (nt := 5) (by decide +kernel) rfl rfl (hg_tys_ok ca) ?_ (by decide) rl10_readOpening ?_ rn10_readOpening
  · exact fun t ht => List.mem_cons_of_mem _ (hg_arr t ht)
  · intro a w hp ad p e R s m args below meth c hR X hEs hnm
    have hR1 : 1 ≤ R.frames ∧ 40 ≤ R.locals := by rw [hR]; exact ⟨Nat.le_refl _, Nat.le_refl _⟩
    refine ⟨kd10_readOpening_ok, fun index ci fi mode hq => kf10_ok X.2.2.2.2.1 (index, ci, fi, mode) (am_as_mem hq), fun index ci fs hq => (am_no hq).elim, fun x v hq => (am_no hq).elim, ?_, fun o t n f hq => (am_no hq).elim, rfl, rfl, by rw [hR]; exact Nat.le_refl _, by rw [hR]; exact Nat.le_refl _⟩
    intro pc sel n0 pre0 f0 hq
    have hz : ∀ q ∈ ki10_readOpening, am_CK p l e R s m args below meth c D hn_cl (va_A (am_w ad ou ca w) s.heap.size) ou ca 2 q.1 q.2.2.1 q.2.2.2.1 q.2.2.2.2 := by
      refine am_allc (am_ck_V (n := 0) X hEs hE (km10_state hE) (hg_good (gw_mem 1252 (by decide +kernel))) rfl (List.mem_cons_of_mem _ (gw_mem 76 (by decide +kernel))) (List.mem_cons_of_mem _ (gw_mem 1249 (by decide +kernel))) (List.mem_cons_of_mem _ (gw_mem 1251 (by decide +kernel))) (List.mem_cons_of_mem _ (gw_mem 45 (by decide +kernel))) pa10_state (by decide +kernel) ⟨Nat.le_trans (by decide) hR1.1, Nat.le_trans (by decide) hR1.2⟩ (kd10_readOpening_ok (30, .invokevirtual 219, 3) (List.mem_of_getElem? (i := 17) rfl))) (am_allc (am_ck_V (n := 0) X hEs hE (km10_state hE) (hg_good (gw_mem 1252 (by decide +kernel))) rfl (List.mem_cons_of_mem _ (gw_mem 76 (by decide +kernel))) (List.mem_cons_of_mem _ (gw_mem 1249 (by decide +kernel))) (List.mem_cons_of_mem _ (gw_mem 1251 (by decide +kernel))) (List.mem_cons_of_mem _ (gw_mem 45 (by decide +kernel))) pa10_state (by decide +kernel) ⟨Nat.le_trans (by decide) hR1.1, Nat.le_trans (by decide) hR1.2⟩ (kd10_readOpening_ok (43, .invokevirtual 219, 3) (List.mem_of_getElem? (i := 24) rfl))) (am_all0))
    exact hz _ (am_as_mem hq)
noncomputable def ki10_readOtherwise : List (Nat × Option (List Nat) × Nat × (List am_V → List am_C → Prop) × am_M) := [(54, none, 1, pr10_state, fm10_state), (116, none, 2, pr10_restore, fm10_restore)]
noncomputable def kb10_readOtherwise : am_B := (kd10_readOtherwise, am_as kf10, hn_ty, fun _ => none, fun _ => none, am_as ki10_readOtherwise, fun _ => none, 5, 2, (some .boolean))
noncomputable def fn10_readOtherwise_c104 (s : hs) : Int32 × hs := ((1 : Int32), (fn10_restore s ((hm_before s) (((hm_open s) - (1 : Int32))).toNatClampNeg)))
def wp10_readOtherwise_c104 (s : hs) : Prop := (am_inb ((hm_open s) - (1 : Int32)) 6 = true ∧ (wp10_restore s ((hm_before s) (((hm_open s) - (1 : Int32))).toNatClampNeg)))
set_option maxRecDepth 100000 in
set_option maxHeartbeats 4000000 in
theorem rc10_readOtherwise_104 (s : hs) (j1 : Option am_V) (g1 : am_loO 22 j1 = true) (hp : wp10_readOtherwise_c104 s) : am_lf (am_mk kb10_readOtherwise 0 0 22) [58, 70, 87, 104] (104, [some (.inr (.inl 0)), j1], [], (hm_w s), 0, 0) = some (some (.inl ((fn10_readOtherwise_c104 s).1)), (hm_w ((fn10_readOtherwise_c104 s).2))) := by
  unfold wp10_readOtherwise_c104 at hp
  refine am_lf_eq ?_
  generalize am_lf (am_mk kb10_readOtherwise 0 0 22) [58, 70, 87, 104] = kt
  refine am_ci (c := am_inb ((hm_open s) - (1 : Int32)) 6 = true) hp.1 ?_
  refine am_cx (pre := pr10_restore) (f := fm10_restore) (r := (none, (hm_w (fn10_restore s ((hm_before s) (((hm_open s) - (1 : Int32))).toNatClampNeg))), 0, 0)) ?_ ?_ ?_ ?_
  · exact ⟨s, ((hm_before s) (((hm_open s) - (1 : Int32))).toNatClampNeg), rfl, rfl, hp.2⟩
  · exact fe10_restore s ((hm_before s) (((hm_open s) - (1 : Int32))).toNatClampNeg)
  · exact (am_ac rfl (am_ac g1 am_a0))
  have e : fn10_readOtherwise_c104 s = ((1 : Int32), (fn10_restore s ((hm_before s) (((hm_open s) - (1 : Int32))).toNatClampNeg))) := by
    rw [fn10_readOtherwise_c104]
  rw [e] <;> rfl
noncomputable def fn10_readOtherwise_c87 (s : hs) (v1 : Int32) : Int32 × hs := (fn10_readOtherwise_c104 (ha_opener s ((v1).toNatClampNeg) ((hm_opened s) (((hm_open s) - (1 : Int32))).toNatClampNeg)))
def wp10_readOtherwise_c87 (s : hs) (v1 : Int32) : Prop := (am_inb ((hm_open s) - (1 : Int32)) 6 = true ∧ (am_inb v1 240 = true ∧ (wp10_readOtherwise_c104 (ha_opener s ((v1).toNatClampNeg) ((hm_opened s) (((hm_open s) - (1 : Int32))).toNatClampNeg)))))
set_option maxRecDepth 100000 in
set_option maxHeartbeats 4000000 in
theorem rc10_readOtherwise_87 (s : hs) (v1 : Int32) (hp : wp10_readOtherwise_c87 s v1) : am_lf (am_mk kb10_readOtherwise 0 0 22) [58, 70, 87, 104] (87, [some (.inr (.inl 0)), some (.inl v1)], [], (hm_w s), 0, 0) = some (some (.inl ((fn10_readOtherwise_c87 s v1).1)), (hm_w ((fn10_readOtherwise_c87 s v1).2))) := by
  unfold wp10_readOtherwise_c87 at hp
  have i104 := @rc10_readOtherwise_104
  refine am_lf_eq ?_
  generalize am_lf (am_mk kb10_readOtherwise 0 0 22) [58, 70, 87, 104] = kt at i104 ⊢
  refine am_ci (c := am_inb ((hm_open s) - (1 : Int32)) 6 = true) hp.1 ?_
  refine am_ci (c := am_inb v1 240 = true) hp.2.1 ?_
  refine am_sp (w' := (hm_w (ha_opener s ((v1).toNatClampNeg) ((hm_opened s) (((hm_open s) - (1 : Int32))).toNatClampNeg)))) (kp_R_0_opener s ((v1).toNatClampNeg) ((hm_opened s) (((hm_open s) - (1 : Int32))).toNatClampNeg)) ?_
  have e : fn10_readOtherwise_c87 s v1 = fn10_readOtherwise_c104 (ha_opener s ((v1).toNatClampNeg) ((hm_opened s) (((hm_open s) - (1 : Int32))).toNatClampNeg)) := by
    rw [fn10_readOtherwise_c87]
  rw [e]
  exact i104 (ha_opener s ((v1).toNatClampNeg) ((hm_opened s) (((hm_open s) - (1 : Int32))).toNatClampNeg)) _ rfl hp.2.2
noncomputable def fn10_readOtherwise_c70 (s : hs) (v1 : Int32) : Int32 × hs := (fn10_readOtherwise_c87 (ha_other s ((((hm_opened s) (((hm_open s) - (1 : Int32))).toNatClampNeg)).toNatClampNeg) v1) v1)
def wp10_readOtherwise_c70 (s : hs) (v1 : Int32) : Prop := (am_inb ((hm_open s) - (1 : Int32)) 6 = true ∧ (am_inb ((hm_opened s) (((hm_open s) - (1 : Int32))).toNatClampNeg) 240 = true ∧ (wp10_readOtherwise_c87 (ha_other s ((((hm_opened s) (((hm_open s) - (1 : Int32))).toNatClampNeg)).toNatClampNeg) v1) v1)))
set_option maxRecDepth 100000 in
set_option maxHeartbeats 4000000 in
theorem rc10_readOtherwise_70 (s : hs) (v1 : Int32) (hp : wp10_readOtherwise_c70 s v1) : am_lf (am_mk kb10_readOtherwise 0 0 22) [58, 70, 87, 104] (70, [some (.inr (.inl 0)), some (.inl v1)], [], (hm_w s), 0, 0) = some (some (.inl ((fn10_readOtherwise_c70 s v1).1)), (hm_w ((fn10_readOtherwise_c70 s v1).2))) := by
  unfold wp10_readOtherwise_c70 at hp
  have i87 := @rc10_readOtherwise_87
  refine am_lf_eq ?_
  generalize am_lf (am_mk kb10_readOtherwise 0 0 22) [58, 70, 87, 104] = kt at i87 ⊢
  refine am_ci (c := am_inb ((hm_open s) - (1 : Int32)) 6 = true) hp.1 ?_
  refine am_ci (c := am_inb ((hm_opened s) (((hm_open s) - (1 : Int32))).toNatClampNeg) 240 = true) hp.2.1 ?_
  refine am_sp (w' := (hm_w (ha_other s ((((hm_opened s) (((hm_open s) - (1 : Int32))).toNatClampNeg)).toNatClampNeg) v1))) (kp_R_0_other s ((((hm_opened s) (((hm_open s) - (1 : Int32))).toNatClampNeg)).toNatClampNeg) v1) ?_
  have e : fn10_readOtherwise_c70 s v1 = fn10_readOtherwise_c87 (ha_other s ((((hm_opened s) (((hm_open s) - (1 : Int32))).toNatClampNeg)).toNatClampNeg) v1) v1 := by
    rw [fn10_readOtherwise_c70]
  rw [e]
  exact i87 (ha_other s ((((hm_opened s) (((hm_open s) - (1 : Int32))).toNatClampNeg)).toNatClampNeg) v1) v1  hp.2.2
noncomputable def fn10_readOtherwise_c58 (s : hs) (v1 : Int32) : Int32 × hs := (fn10_readOtherwise_c70 (ha_divided s ((((hm_open s) - (1 : Int32))).toNatClampNeg) (vp_nar .boolean (1 : Int32))) v1)
def wp10_readOtherwise_c58 (s : hs) (v1 : Int32) : Prop := (am_inb ((hm_open s) - (1 : Int32)) 6 = true ∧ (wp10_readOtherwise_c70 (ha_divided s ((((hm_open s) - (1 : Int32))).toNatClampNeg) (vp_nar .boolean (1 : Int32))) v1))
set_option maxRecDepth 100000 in
set_option maxHeartbeats 4000000 in
theorem rc10_readOtherwise_58 (s : hs) (v1 : Int32) (hp : wp10_readOtherwise_c58 s v1) : am_lf (am_mk kb10_readOtherwise 0 0 22) [58, 70, 87, 104] (58, [some (.inr (.inl 0)), some (.inl v1)], [], (hm_w s), 0, 0) = some (some (.inl ((fn10_readOtherwise_c58 s v1).1)), (hm_w ((fn10_readOtherwise_c58 s v1).2))) := by
  unfold wp10_readOtherwise_c58 at hp
  have i70 := @rc10_readOtherwise_70
  refine am_lf_eq ?_
  generalize am_lf (am_mk kb10_readOtherwise 0 0 22) [58, 70, 87, 104] = kt at i70 ⊢
  refine am_ci (c := am_inb ((hm_open s) - (1 : Int32)) 6 = true) hp.1 ?_
  refine am_sp (w' := (hm_w (ha_divided s ((((hm_open s) - (1 : Int32))).toNatClampNeg) (vp_nar .boolean (1 : Int32))))) (kp_R_0_divided s ((((hm_open s) - (1 : Int32))).toNatClampNeg) (vp_nar .boolean (1 : Int32))) ?_
  have e : fn10_readOtherwise_c58 s v1 = fn10_readOtherwise_c70 (ha_divided s ((((hm_open s) - (1 : Int32))).toNatClampNeg) (vp_nar .boolean (1 : Int32))) v1 := by
    rw [fn10_readOtherwise_c58]
  rw [e]
  exact i70 (ha_divided s ((((hm_open s) - (1 : Int32))).toNatClampNeg) (vp_nar .boolean (1 : Int32))) v1  hp.2
noncomputable def fn10_readOtherwise (s : hs) (p0 : Int32) : Int32 × hs := Classical.choose (⟨_, rfl⟩ : ∃ z : Int32 × hs, z = (if (hm_open s) = 0 then ((0 : Int32), s) else (if ((hm_sort s) (((hm_opened s) (((hm_open s) - (1 : Int32))).toNatClampNeg)).toNatClampNeg) = (2 : Int32) then (if ((hm_divided s) (((hm_open s) - (1 : Int32))).toNatClampNeg) = 0 then (fn10_readOtherwise_c58 (ha_ended s ((((hm_open s) - (1 : Int32))).toNatClampNeg) (fn10_state s)) p0) else ((0 : Int32), s)) else ((0 : Int32), s))))
theorem fq10_readOtherwise (s : hs) (p0 : Int32) : fn10_readOtherwise s p0 = (if (hm_open s) = 0 then ((0 : Int32), s) else (if ((hm_sort s) (((hm_opened s) (((hm_open s) - (1 : Int32))).toNatClampNeg)).toNatClampNeg) = (2 : Int32) then (if ((hm_divided s) (((hm_open s) - (1 : Int32))).toNatClampNeg) = 0 then (fn10_readOtherwise_c58 (ha_ended s ((((hm_open s) - (1 : Int32))).toNatClampNeg) (fn10_state s)) p0) else ((0 : Int32), s)) else ((0 : Int32), s))) := Classical.choose_spec (⟨_, rfl⟩ : ∃ z : Int32 × hs, z = (if (hm_open s) = 0 then ((0 : Int32), s) else (if ((hm_sort s) (((hm_opened s) (((hm_open s) - (1 : Int32))).toNatClampNeg)).toNatClampNeg) = (2 : Int32) then (if ((hm_divided s) (((hm_open s) - (1 : Int32))).toNatClampNeg) = 0 then (fn10_readOtherwise_c58 (ha_ended s ((((hm_open s) - (1 : Int32))).toNatClampNeg) (fn10_state s)) p0) else ((0 : Int32), s)) else ((0 : Int32), s))))
def wp10_readOtherwise (s : hs) (p0 : Int32) : Prop := (((hm_open s) = 0 → True) ∧ (¬ (hm_open s) = 0 → (am_inb ((hm_open s) - (1 : Int32)) 6 = true ∧ (am_inb ((hm_opened s) (((hm_open s) - (1 : Int32))).toNatClampNeg) 240 = true ∧ ((((hm_sort s) (((hm_opened s) (((hm_open s) - (1 : Int32))).toNatClampNeg)).toNatClampNeg) = (2 : Int32) → (am_inb ((hm_open s) - (1 : Int32)) 6 = true ∧ ((((hm_divided s) (((hm_open s) - (1 : Int32))).toNatClampNeg) = 0 → ((wp10_state s) ∧ (am_inb ((hm_open s) - (1 : Int32)) 6 = true ∧ (wp10_readOtherwise_c58 (ha_ended s ((((hm_open s) - (1 : Int32))).toNatClampNeg) (fn10_state s)) p0)))) ∧ (¬ ((hm_divided s) (((hm_open s) - (1 : Int32))).toNatClampNeg) = 0 → True)))) ∧ (¬ ((hm_sort s) (((hm_opened s) (((hm_open s) - (1 : Int32))).toNatClampNeg)).toNatClampNeg) = (2 : Int32) → True))))))
set_option maxRecDepth 100000 in
set_option maxHeartbeats 4000000 in
theorem re10_readOtherwise (s : hs) (p0 : Int32) (hp : wp10_readOtherwise s p0) : am_lf (am_mk kb10_readOtherwise 0 0 22) [58, 70, 87, 104] (0, am_L0 [.inr (.inl 0), .inl p0] 2, [], (hm_w s), 0, 0) = some (some (.inl ((fn10_readOtherwise s p0).1)), (hm_w ((fn10_readOtherwise s p0).2))) := by
  unfold wp10_readOtherwise at hp
  have i58 := @rc10_readOtherwise_58
  refine am_lf_eq ?_
  generalize am_lf (am_mk kb10_readOtherwise 0 0 22) [58, 70, 87, 104] = kt at i58 ⊢
  refine am_if (c := (hm_open s) = 0) (fun h1 => ?_) (fun h1 => ?_)
  · have e : fn10_readOtherwise s p0 = ((0 : Int32), s) := by
      rw [fq10_readOtherwise]
      rw [if_pos h1]
    rw [e] <;> rfl
  · have q1 := hp.2 h1
    refine am_ci (c := am_inb ((hm_open s) - (1 : Int32)) 6 = true) q1.1 ?_
    refine am_ci (c := am_inb ((hm_opened s) (((hm_open s) - (1 : Int32))).toNatClampNeg) 240 = true) q1.2.1 ?_
    refine am_if (c := ((hm_sort s) (((hm_opened s) (((hm_open s) - (1 : Int32))).toNatClampNeg)).toNatClampNeg) = (2 : Int32)) (fun h2 => ?_) (fun h2 => ?_)
    · have q2 := q1.2.2.1 h2
      refine am_ci (c := am_inb ((hm_open s) - (1 : Int32)) 6 = true) q2.1 ?_
      refine am_if (c := ((hm_divided s) (((hm_open s) - (1 : Int32))).toNatClampNeg) = 0) (fun h3 => ?_) (fun h3 => ?_)
      · have q3 := q2.2.1 h3
        refine am_cx (pre := pr10_state) (f := fm10_state) (r := (some (.inl (fn10_state s)), (hm_w s), 0, 0)) ?_ ?_ ?_ ?_
        · exact ⟨s, rfl, rfl, q3.1⟩
        · exact fe10_state s
        · exact rfl
        refine am_ci (c := am_inb ((hm_open s) - (1 : Int32)) 6 = true) q3.2.1 ?_
        refine am_sp (w' := (hm_w (ha_ended s ((((hm_open s) - (1 : Int32))).toNatClampNeg) (fn10_state s)))) (kp_R_0_ended s ((((hm_open s) - (1 : Int32))).toNatClampNeg) (fn10_state s)) ?_
        have e : fn10_readOtherwise s p0 = fn10_readOtherwise_c58 (ha_ended s ((((hm_open s) - (1 : Int32))).toNatClampNeg) (fn10_state s)) p0 := by
          rw [fq10_readOtherwise]
          rw [if_neg h1, if_pos h2, if_pos h3]
        rw [e]
        exact i58 (ha_ended s ((((hm_open s) - (1 : Int32))).toNatClampNeg) (fn10_state s)) p0  q3.2.2
      · have e : fn10_readOtherwise s p0 = ((0 : Int32), s) := by
          rw [fq10_readOtherwise]
          rw [if_neg h1, if_pos h2, if_neg h3]
        rw [e] <;> rfl
    · have e : fn10_readOtherwise s p0 = ((0 : Int32), s) := by
        rw [fq10_readOtherwise]
        rw [if_neg h1, if_neg h2]
      rw [e] <;> rfl
abbrev pr10_readOtherwise : List am_V → List am_C → Prop := fun a w => ∃ (s : hs) (p0 : Int32), a = [.inr (.inl 0), .inl p0] ∧ w = (hm_w s) ∧ wp10_readOtherwise s p0
noncomputable def fm10_readOtherwise : am_M := fun a w => (fun (z : Int32 × hs) => (some (.inl (z.1)), (hm_w (z.2)), 0, 0)) (fn10_readOtherwise (hm_st w 0) (am_i (am_an a 1)))
theorem fe10_readOtherwise (s : hs) (p0 : Int32) : fm10_readOtherwise [.inr (.inl 0), .inl p0] (hm_w s) = (some (.inl ((fn10_readOtherwise s p0).1)), (hm_w ((fn10_readOtherwise s p0).2)), 0, 0) := rfl
set_option maxRecDepth 100000 in
set_option maxHeartbeats 4000000 in
theorem rn10_readOtherwise : ∀ (a : List am_V) (w : List am_C), pr10_readOtherwise a w → ∃ nq, am_ev (am_mk kb10_readOtherwise (fm10_readOtherwise a w).2.2.1 (fm10_readOtherwise a w).2.2.2 w.length) [58, 70, 87, 104] nq (0, am_L0 a 2, [], w, 0, 0) = some ((fm10_readOtherwise a w).1, (fm10_readOtherwise a w).2.1) := by
  rintro a w ⟨s, p0, rfl, rfl, hp⟩
  rw [fe10_readOtherwise s p0]
  exact am_lf_ev (re10_readOtherwise s p0 hp)
theorem rl10_readOtherwise : ∀ (a : List am_V) (w : List am_C), pr10_readOtherwise a w → a.length ≤ 2 := by
  rintro a w ⟨s, p0, rfl, rfl, hp⟩
  exact Nat.le_of_ble_eq_true rfl
theorem pa10_readOtherwise : ∀ a w, pr10_readOtherwise a w → ∃ q a' ci fs r, a = .inr (.inl q) :: a' ∧ w[q]? = some (.inr (ci, fs)) ∧ hn_cl[ci]? = some r ∧ r.1 = hn_R10 := by
  rintro a w ⟨s, p0, rfl, rfl, hp⟩
  exact ⟨0, _, 10, _, _, rfl, rfl, rfl, rfl⟩
set_option maxRecDepth 100000 in
set_option maxHeartbeats 4000000 in
theorem km10_readOtherwise {l : Launch} {E : (Nat → Prop) → State → Prop} {D : va_G} {ou : Nat → Nat} {ca : Nat → ClassId} (hE : am_EC E) : hg_Met l E D ou ca hy10_readOtherwise prog_12_method_43_code 2 (some .boolean) 1 pr10_readOtherwise fm10_readOtherwise := by
  refine am_met (B := kb10_readOtherwise) (cuts := [58, 70, 87, 104]) (nt := 5) (by decide +kernel) rfl rfl (hg_tys_ok ca) ?_ (by decide) rl10_readOtherwise ?_ rn10_readOtherwise
  · exact fun t ht => List.mem_cons_of_mem _ (hg_arr t ht)
  · intro a w hp ad p e R s m args below meth c hR X hEs hnm
    have hR1 : 1 ≤ R.frames ∧ 40 ≤ R.locals := by rw [hR]; exact ⟨Nat.le_refl _, Nat.le_refl _⟩
    refine ⟨kd10_readOtherwise_ok, fun index ci fi mode hq => kf10_ok X.2.2.2.2.1 (index, ci, fi, mode) (am_as_mem hq), fun index ci fs hq => (am_no hq).elim, fun x v hq => (am_no hq).elim, ?_, fun o t n f hq => (am_no hq).elim, rfl, rfl, by rw [hR]; exact Nat.le_refl _, by rw [hR]; exact Nat.le_refl _⟩
    intro pc sel n0 pre0 f0 hq
    have hz : ∀ q ∈ ki10_readOtherwise, am_CK p l e R s m args below meth c D hn_cl (va_A (am_w ad ou ca w) s.heap.size) ou ca 2 q.1 q.2.2.1 q.2.2.2.1 q.2.2.2.2 := by
      refine am_allc (am_ck_V (n := 0) X hEs hE (km10_state hE) (hg_good (gw_mem 1252 (by decide +kernel))) rfl (List.mem_cons_of_mem _ (gw_mem 76 (by decide +kernel))) (List.mem_cons_of_mem _ (gw_mem 1249 (by decide +kernel))) (List.mem_cons_of_mem _ (gw_mem 1251 (by decide +kernel))) (List.mem_cons_of_mem _ (gw_mem 45 (by decide +kernel))) pa10_state (by decide +kernel) ⟨Nat.le_trans (by decide) hR1.1, Nat.le_trans (by decide) hR1.2⟩ (kd10_readOtherwise_ok (54, .invokevirtual 219, 3) (List.mem_of_getElem? (i := 32) rfl))) (am_allc (am_ck_V (n := 1) X hEs hE (km10_restore hE) (hg_good (gw_mem 1260 (by decide +kernel))) rfl (List.mem_cons_of_mem _ (gw_mem 76 (by decide +kernel))) (List.mem_cons_of_mem _ (gw_mem 1257 (by decide +kernel))) (List.mem_cons_of_mem _ (gw_mem 1259 (by decide +kernel))) (List.mem_cons_of_mem _ (gw_mem 47 (by decide +kernel))) pa10_restore (by decide +kernel) ⟨Nat.le_trans (by decide) hR1.1, Nat.le_trans (by decide) hR1.2⟩ (kd10_readOtherwise_ok (116, .invokevirtual 222, 3) (List.mem_of_getElem? (i := 72) rfl))) (am_all0))
    exact hz _ (am_as_mem hq)
noncomputable def ki10_readClose : List (Nat × Option (List Nat) × Nat × (List am_V → List am_C → Prop) × am_M) := [(8, none, 1, pr10_state, fm10_state)]
noncomputable def kb10_readClose : am_B := (kd10_readClose, am_as kf10, hn_ty, fun _ => none, fun _ => none, am_as ki10_readClose, fun _ => none, 5, 2, (some .boolean))
noncomputable def fn10_readClose (s : hs) (p0 : Int32) : Int32 × hs := Classical.choose (⟨_, rfl⟩ : ∃ z : Int32 × hs, z = (if (hm_open s) = 0 then ((0 : Int32), s) else (if (fn10_state s) = ((hm_ended s) (((hm_open s) - (1 : Int32))).toNatClampNeg) then ((1 : Int32), (ha_opener (ha_closing (hu_open s ((hm_open s) - (1 : Int32))) ((((hm_opened (hu_open s ((hm_open s) - (1 : Int32)))) ((hm_open (hu_open s ((hm_open s) - (1 : Int32))))).toNatClampNeg)).toNatClampNeg) p0) ((p0).toNatClampNeg) ((hm_opened (ha_closing (hu_open s ((hm_open s) - (1 : Int32))) ((((hm_opened (hu_open s ((hm_open s) - (1 : Int32)))) ((hm_open (hu_open s ((hm_open s) - (1 : Int32))))).toNatClampNeg)).toNatClampNeg) p0)) ((hm_open (ha_closing (hu_open s ((hm_open s) - (1 : Int32))) ((((hm_opened (hu_open s ((hm_open s) - (1 : Int32)))) ((hm_open (hu_open s ((hm_open s) - (1 : Int32))))).toNatClampNeg)).toNatClampNeg) p0))).toNatClampNeg))) else ((0 : Int32), s))))
theorem fq10_readClose (s : hs) (p0 : Int32) : fn10_readClose s p0 = (if (hm_open s) = 0 then ((0 : Int32), s) else (if (fn10_state s) = ((hm_ended s) (((hm_open s) - (1 : Int32))).toNatClampNeg) then ((1 : Int32), (ha_opener (ha_closing (hu_open s ((hm_open s) - (1 : Int32))) ((((hm_opened (hu_open s ((hm_open s) - (1 : Int32)))) ((hm_open (hu_open s ((hm_open s) - (1 : Int32))))).toNatClampNeg)).toNatClampNeg) p0) ((p0).toNatClampNeg) ((hm_opened (ha_closing (hu_open s ((hm_open s) - (1 : Int32))) ((((hm_opened (hu_open s ((hm_open s) - (1 : Int32)))) ((hm_open (hu_open s ((hm_open s) - (1 : Int32))))).toNatClampNeg)).toNatClampNeg) p0)) ((hm_open (ha_closing (hu_open s ((hm_open s) - (1 : Int32))) ((((hm_opened (hu_open s ((hm_open s) - (1 : Int32)))) ((hm_open (hu_open s ((hm_open s) - (1 : Int32))))).toNatClampNeg)).toNatClampNeg) p0))).toNatClampNeg))) else ((0 : Int32), s))) := Classical.choose_spec (⟨_, rfl⟩ : ∃ z : Int32 × hs, z = (if (hm_open s) = 0 then ((0 : Int32), s) else (if (fn10_state s) = ((hm_ended s) (((hm_open s) - (1 : Int32))).toNatClampNeg) then ((1 : Int32), (ha_opener (ha_closing (hu_open s ((hm_open s) - (1 : Int32))) ((((hm_opened (hu_open s ((hm_open s) - (1 : Int32)))) ((hm_open (hu_open s ((hm_open s) - (1 : Int32))))).toNatClampNeg)).toNatClampNeg) p0) ((p0).toNatClampNeg) ((hm_opened (ha_closing (hu_open s ((hm_open s) - (1 : Int32))) ((((hm_opened (hu_open s ((hm_open s) - (1 : Int32)))) ((hm_open (hu_open s ((hm_open s) - (1 : Int32))))).toNatClampNeg)).toNatClampNeg) p0)) ((hm_open (ha_closing (hu_open s ((hm_open s) - (1 : Int32))) ((((hm_opened (hu_open s ((hm_open s) - (1 : Int32)))) ((hm_open (hu_open s ((hm_open s) - (1 : Int32))))).toNatClampNeg)).toNatClampNeg) p0))).toNatClampNeg))) else ((0 : Int32), s))))
def wp10_readClose (s : hs) (p0 : Int32) : Prop := (((hm_open s) = 0 → True) ∧ (¬ (hm_open s) = 0 → ((wp10_state s) ∧ (am_inb ((hm_open s) - (1 : Int32)) 6 = true ∧ (((fn10_state s) = ((hm_ended s) (((hm_open s) - (1 : Int32))).toNatClampNeg) → (am_inb (hm_open (hu_open s ((hm_open s) - (1 : Int32)))) 6 = true ∧ (am_inb ((hm_opened (hu_open s ((hm_open s) - (1 : Int32)))) ((hm_open (hu_open s ((hm_open s) - (1 : Int32))))).toNatClampNeg) 240 = true ∧ (am_inb (hm_open (ha_closing (hu_open s ((hm_open s) - (1 : Int32))) ((((hm_opened (hu_open s ((hm_open s) - (1 : Int32)))) ((hm_open (hu_open s ((hm_open s) - (1 : Int32))))).toNatClampNeg)).toNatClampNeg) p0)) 6 = true ∧ (am_inb p0 240 = true))))) ∧ (¬ (fn10_state s) = ((hm_ended s) (((hm_open s) - (1 : Int32))).toNatClampNeg) → True))))))
set_option maxRecDepth 100000 in
set_option maxHeartbeats 4000000 in
theorem re10_readClose (s : hs) (p0 : Int32) (hp : wp10_readClose s p0) : am_lf (am_mk kb10_readClose 0 0 22) [] (0, am_L0 [.inr (.inl 0), .inl p0] 2, [], (hm_w s), 0, 0) = some (some (.inl ((fn10_readClose s p0).1)), (hm_w ((fn10_readClose s p0).2))) := by
  unfold wp10_readClose at hp
  refine am_lf_eq ?_
  generalize am_lf (am_mk kb10_readClose 0 0 22) [] = kt
  refine am_if (c := (hm_open s) = 0) (fun h1 => ?_) (fun h1 => ?_)
  · have e : fn10_readClose s p0 = ((0 : Int32), s) := by
      rw [fq10_readClose]
      rw [if_pos h1]
    rw [e] <;> rfl
  · have q1 := hp.2 h1
    refine am_cx (pre := pr10_state) (f := fm10_state) (r := (some (.inl (fn10_state s)), (hm_w s), 0, 0)) ?_ ?_ ?_ ?_
    · exact ⟨s, rfl, rfl, q1.1⟩
    · exact fe10_state s
    · exact rfl
    refine am_ci (c := am_inb ((hm_open s) - (1 : Int32)) 6 = true) q1.2.1 ?_
    refine am_if (c := (fn10_state s) = ((hm_ended s) (((hm_open s) - (1 : Int32))).toNatClampNeg)) (fun h2 => ?_) (fun h2 => ?_)
    · have q2 := q1.2.2.1 h2
      refine am_sp (w' := (hm_w (hu_open s ((hm_open s) - (1 : Int32))))) (kp_R_0_open s ((hm_open s) - (1 : Int32))) ?_
      refine am_ci (c := am_inb (hm_open (hu_open s ((hm_open s) - (1 : Int32)))) 6 = true) q2.1 ?_
      refine am_ci (c := am_inb ((hm_opened (hu_open s ((hm_open s) - (1 : Int32)))) ((hm_open (hu_open s ((hm_open s) - (1 : Int32))))).toNatClampNeg) 240 = true) q2.2.1 ?_
      refine am_sp (w' := (hm_w (ha_closing (hu_open s ((hm_open s) - (1 : Int32))) ((((hm_opened (hu_open s ((hm_open s) - (1 : Int32)))) ((hm_open (hu_open s ((hm_open s) - (1 : Int32))))).toNatClampNeg)).toNatClampNeg) p0))) (kp_R_0_closing (hu_open s ((hm_open s) - (1 : Int32))) ((((hm_opened (hu_open s ((hm_open s) - (1 : Int32)))) ((hm_open (hu_open s ((hm_open s) - (1 : Int32))))).toNatClampNeg)).toNatClampNeg) p0) ?_
      refine am_ci (c := am_inb (hm_open (ha_closing (hu_open s ((hm_open s) - (1 : Int32))) ((((hm_opened (hu_open s ((hm_open s) - (1 : Int32)))) ((hm_open (hu_open s ((hm_open s) - (1 : Int32))))).toNatClampNeg)).toNatClampNeg) p0)) 6 = true) q2.2.2.1 ?_
      refine am_ci (c := am_inb p0 240 = true) q2.2.2.2 ?_
      refine am_sp (w' := (hm_w (ha_opener (ha_closing (hu_open s ((hm_open s) - (1 : Int32))) ((((hm_opened (hu_open s ((hm_open s) - (1 : Int32)))) ((hm_open (hu_open s ((hm_open s) - (1 : Int32))))).toNatClampNeg)).toNatClampNeg) p0) ((p0).toNatClampNeg) ((hm_opened (ha_closing (hu_open s ((hm_open s) - (1 : Int32))) ((((hm_opened (hu_open s ((hm_open s) - (1 : Int32)))) ((hm_open (hu_open s ((hm_open s) - (1 : Int32))))).toNatClampNeg)).toNatClampNeg) p0)) ((hm_open (ha_closing (hu_open s ((hm_open s) - (1 : Int32))) ((((hm_opened (hu_open s ((hm_open s) - (1 : Int32)))) ((hm_open (hu_open s ((hm_open s) - (1 : Int32))))).toNatClampNeg)).toNatClampNeg) p0))).toNatClampNeg)))) (kp_R_0_opener (ha_closing (hu_open s ((hm_open s) - (1 : Int32))) ((((hm_opened (hu_open s ((hm_open s) - (1 : Int32)))) ((hm_open (hu_open s ((hm_open s) - (1 : Int32))))).toNatClampNeg)).toNatClampNeg) p0) ((p0).toNatClampNeg) ((hm_opened (ha_closing (hu_open s ((hm_open s) - (1 : Int32))) ((((hm_opened (hu_open s ((hm_open s) - (1 : Int32)))) ((hm_open (hu_open s ((hm_open s) - (1 : Int32))))).toNatClampNeg)).toNatClampNeg) p0)) ((hm_open (ha_closing (hu_open s ((hm_open s) - (1 : Int32))) ((((hm_opened (hu_open s ((hm_open s) - (1 : Int32)))) ((hm_open (hu_open s ((hm_open s) - (1 : Int32))))).toNatClampNeg)).toNatClampNeg) p0))).toNatClampNeg)) ?_
      have e : fn10_readClose s p0 = ((1 : Int32), (ha_opener (ha_closing (hu_open s ((hm_open s) - (1 : Int32))) ((((hm_opened (hu_open s ((hm_open s) - (1 : Int32)))) ((hm_open (hu_open s ((hm_open s) - (1 : Int32))))).toNatClampNeg)).toNatClampNeg) p0) ((p0).toNatClampNeg) ((hm_opened (ha_closing (hu_open s ((hm_open s) - (1 : Int32))) ((((hm_opened (hu_open s ((hm_open s) - (1 : Int32)))) ((hm_open (hu_open s ((hm_open s) - (1 : Int32))))).toNatClampNeg)).toNatClampNeg) p0)) ((hm_open (ha_closing (hu_open s ((hm_open s) - (1 : Int32))) ((((hm_opened (hu_open s ((hm_open s) - (1 : Int32)))) ((hm_open (hu_open s ((hm_open s) - (1 : Int32))))).toNatClampNeg)).toNatClampNeg) p0))).toNatClampNeg))) := by
        rw [fq10_readClose]
        rw [if_neg h1, if_pos h2]
      rw [e] <;> rfl
    · have e : fn10_readClose s p0 = ((0 : Int32), s) := by
        rw [fq10_readClose]
        rw [if_neg h1, if_neg h2]
      rw [e] <;> rfl
abbrev pr10_readClose : List am_V → List am_C → Prop := fun a w => ∃ (s : hs) (p0 : Int32), a = [.inr (.inl 0), .inl p0] ∧ w = (hm_w s) ∧ wp10_readClose s p0
noncomputable def fm10_readClose : am_M := fun a w => (fun (z : Int32 × hs) => (some (.inl (z.1)), (hm_w (z.2)), 0, 0)) (fn10_readClose (hm_st w 0) (am_i (am_an a 1)))
theorem fe10_readClose (s : hs) (p0 : Int32) : fm10_readClose [.inr (.inl 0), .inl p0] (hm_w s) = (some (.inl ((fn10_readClose s p0).1)), (hm_w ((fn10_readClose s p0).2)), 0, 0) := rfl
set_option maxRecDepth 100000 in
set_option maxHeartbeats 4000000 in
theorem rn10_readClose : ∀ (a : List am_V) (w : List am_C), pr10_readClose a w → ∃ nq, am_ev (am_mk kb10_readClose (fm10_readClose a w).2.2.1 (fm10_readClose a w).2.2.2 w.length) [] nq (0, am_L0 a 2, [], w, 0, 0) = some ((fm10_readClose a w).1, (fm10_readClose a w).2.1) := by
  rintro a w ⟨s, p0, rfl, rfl, hp⟩
  rw [fe10_readClose s p0]
  exact am_lf_ev (re10_readClose s p0 hp)
theorem rl10_readClose : ∀ (a : List am_V) (w : List am_C), pr10_readClose a w → a.length ≤ 2 := by
  rintro a w ⟨s, p0, rfl, rfl, hp⟩
  exact Nat.le_of_ble_eq_true rfl
theorem pa10_readClose : ∀ a w, pr10_readClose a w → ∃ q a' ci fs r, a = .inr (.inl q) :: a' ∧ w[q]? = some (.inr (ci, fs)) ∧ hn_cl[ci]? = some r ∧ r.1 = hn_R10 := by
  rintro a w ⟨s, p0, rfl, rfl, hp⟩
  exact ⟨0, _, 10, _, _, rfl, rfl, rfl, rfl⟩
set_option maxRecDepth 100000 in
set_option maxHeartbeats 4000000 in
theorem km10_readClose {l : Launch} {E : (Nat → Prop) → State → Prop} {D : va_G} {ou : Nat → Nat} {ca : Nat → ClassId} (hE : am_EC E) : hg_Met l E D ou ca hy10_readClose prog_12_method_44_code 2 (some .boolean) 1 pr10_readClose fm10_readClose := by
  refine am_met (B := kb10_readClose) (cuts := []) (nt := 5) (by decide +kernel) rfl rfl (hg_tys_ok ca) ?_ (by decide) rl10_readClose ?_ rn10_readClose
  · exact fun t ht => List.mem_cons_of_mem _ (hg_arr t ht)
  · intro a w hp ad p e R s m args below meth c hR X hEs hnm
    have hR1 : 1 ≤ R.frames ∧ 40 ≤ R.locals := by rw [hR]; exact ⟨Nat.le_refl _, Nat.le_refl _⟩
    refine ⟨kd10_readClose_ok, fun index ci fi mode hq => kf10_ok X.2.2.2.2.1 (index, ci, fi, mode) (am_as_mem hq), fun index ci fs hq => (am_no hq).elim, fun x v hq => (am_no hq).elim, ?_, fun o t n f hq => (am_no hq).elim, rfl, rfl, by rw [hR]; exact Nat.le_refl _, by rw [hR]; exact Nat.le_refl _⟩
    intro pc sel n0 pre0 f0 hq
    have hz : ∀ q ∈ ki10_readClose, am_CK p l e R s m args below meth c D hn_cl (va_A (am_w ad ou ca w) s.heap.size) ou ca 2 q.1 q.2.2.1 q.2.2.2.1 q.2.2.2.2 := by
      refine am_allc (am_ck_V (n := 0) X hEs hE (km10_state hE) (hg_good (gw_mem 1252 (by decide +kernel))) rfl (List.mem_cons_of_mem _ (gw_mem 76 (by decide +kernel))) (List.mem_cons_of_mem _ (gw_mem 1249 (by decide +kernel))) (List.mem_cons_of_mem _ (gw_mem 1251 (by decide +kernel))) (List.mem_cons_of_mem _ (gw_mem 45 (by decide +kernel))) pa10_state (by decide +kernel) ⟨Nat.le_trans (by decide) hR1.1, Nat.le_trans (by decide) hR1.2⟩ (kd10_readClose_ok (8, .invokevirtual 219, 3) (List.mem_of_getElem? (i := 4) rfl))) (am_all0)
    exact hz _ (am_as_mem hq)
noncomputable def ki10_readSymbol : List (Nat × Option (List Nat) × Nat × (List am_V → List am_C → Prop) × am_M) := [(42, none, 2, pr10_readHole, fm10_readHole), (48, none, 2, pr10_readOpening, fm10_readOpening), (54, none, 2, pr10_readOtherwise, fm10_readOtherwise), (60, none, 2, pr10_readClose, fm10_readClose)]
noncomputable def kb10_readSymbol : am_B := (kd10_readSymbol, am_as kf10, hn_ty, fun _ => none, fun _ => none, am_as ki10_readSymbol, fun _ => none, 5, 2, (some .boolean))
noncomputable def fn10_readSymbol (s : hs) (p0 : Int32) : Int32 × hs := Classical.choose (⟨_, rfl⟩ : ∃ z : Int32 × hs, z = (if ((hm_sort s) (p0).toNatClampNeg) = (1 : Int32) then ((fn10_readHole s p0).1, (fn10_readHole s p0).2) else (if ((hm_sort s) (p0).toNatClampNeg) = (2 : Int32) then ((fn10_readOpening s p0).1, (fn10_readOpening s p0).2) else (if ((hm_sort s) (p0).toNatClampNeg) = (3 : Int32) then ((fn10_readOpening s p0).1, (fn10_readOpening s p0).2) else (if ((hm_sort s) (p0).toNatClampNeg) = (4 : Int32) then ((fn10_readOtherwise s p0).1, (fn10_readOtherwise s p0).2) else (if ((hm_sort s) (p0).toNatClampNeg) = (5 : Int32) then ((fn10_readClose s p0).1, (fn10_readClose s p0).2) else ((0 : Int32), s)))))))
theorem fq10_readSymbol (s : hs) (p0 : Int32) : fn10_readSymbol s p0 = (if ((hm_sort s) (p0).toNatClampNeg) = (1 : Int32) then ((fn10_readHole s p0).1, (fn10_readHole s p0).2) else (if ((hm_sort s) (p0).toNatClampNeg) = (2 : Int32) then ((fn10_readOpening s p0).1, (fn10_readOpening s p0).2) else (if ((hm_sort s) (p0).toNatClampNeg) = (3 : Int32) then ((fn10_readOpening s p0).1, (fn10_readOpening s p0).2) else (if ((hm_sort s) (p0).toNatClampNeg) = (4 : Int32) then ((fn10_readOtherwise s p0).1, (fn10_readOtherwise s p0).2) else (if ((hm_sort s) (p0).toNatClampNeg) = (5 : Int32) then ((fn10_readClose s p0).1, (fn10_readClose s p0).2) else ((0 : Int32), s)))))) := Classical.choose_spec (⟨_, rfl⟩ : ∃ z : Int32 × hs, z = (if ((hm_sort s) (p0).toNatClampNeg) = (1 : Int32) then ((fn10_readHole s p0).1, (fn10_readHole s p0).2) else (if ((hm_sort s) (p0).toNatClampNeg) = (2 : Int32) then ((fn10_readOpening s p0).1, (fn10_readOpening s p0).2) else (if ((hm_sort s) (p0).toNatClampNeg) = (3 : Int32) then ((fn10_readOpening s p0).1, (fn10_readOpening s p0).2) else (if ((hm_sort s) (p0).toNatClampNeg) = (4 : Int32) then ((fn10_readOtherwise s p0).1, (fn10_readOtherwise s p0).2) else (if ((hm_sort s) (p0).toNatClampNeg) = (5 : Int32) then ((fn10_readClose s p0).1, (fn10_readClose s p0).2) else ((0 : Int32), s)))))))
def wp10_readSymbol (s : hs) (p0 : Int32) : Prop := (am_inb p0 240 = true ∧ ((((hm_sort s) (p0).toNatClampNeg) = (1 : Int32) → ((wp10_readHole s p0) ∧ (am_fit .boolean (.inl (fn10_readHole s p0).1) = true))) ∧ (¬ ((hm_sort s) (p0).toNatClampNeg) = (1 : Int32) → ((((hm_sort s) (p0).toNatClampNeg) = (2 : Int32) → ((wp10_readOpening s p0) ∧ (am_fit .boolean (.inl (fn10_readOpening s p0).1) = true))) ∧ (¬ ((hm_sort s) (p0).toNatClampNeg) = (2 : Int32) → ((((hm_sort s) (p0).toNatClampNeg) = (3 : Int32) → ((wp10_readOpening s p0) ∧ (am_fit .boolean (.inl (fn10_readOpening s p0).1) = true))) ∧ (¬ ((hm_sort s) (p0).toNatClampNeg) = (3 : Int32) → ((((hm_sort s) (p0).toNatClampNeg) = (4 : Int32) → ((wp10_readOtherwise s p0) ∧ (am_fit .boolean (.inl (fn10_readOtherwise s p0).1) = true))) ∧ (¬ ((hm_sort s) (p0).toNatClampNeg) = (4 : Int32) → ((((hm_sort s) (p0).toNatClampNeg) = (5 : Int32) → ((wp10_readClose s p0) ∧ (am_fit .boolean (.inl (fn10_readClose s p0).1) = true))) ∧ (¬ ((hm_sort s) (p0).toNatClampNeg) = (5 : Int32) → True)))))))))))
set_option maxRecDepth 100000 in
set_option maxHeartbeats 4000000 in
theorem re10_readSymbol (s : hs) (p0 : Int32) (hp : wp10_readSymbol s p0) : am_lf (am_mk kb10_readSymbol 0 0 22) [] (0, am_L0 [.inr (.inl 0), .inl p0] 2, [], (hm_w s), 0, 0) = some (some (.inl ((fn10_readSymbol s p0).1)), (hm_w ((fn10_readSymbol s p0).2))) := by
  unfold wp10_readSymbol at hp
  refine am_lf_eq ?_
  generalize am_lf (am_mk kb10_readSymbol 0 0 22) [] = kt
  refine am_ci (c := am_inb p0 240 = true) hp.1 ?_
  refine am_if (c := ((hm_sort s) (p0).toNatClampNeg) = (1 : Int32)) (fun h1 => ?_) (fun h1 => ?_)
  · have q1 := hp.2.1 h1
    refine am_cx (pre := pr10_readHole) (f := fm10_readHole) (r := (some (.inl ((fn10_readHole s p0).1)), (hm_w ((fn10_readHole s p0).2)), 0, 0)) ?_ ?_ ?_ ?_
    · exact ⟨s, p0, rfl, rfl, q1.1⟩
    · exact fe10_readHole s p0
    · exact rfl
    refine am_ci (c := am_fit .boolean (.inl (fn10_readHole s p0).1) = true) q1.2 ?_
    have e : fn10_readSymbol s p0 = ((fn10_readHole s p0).1, (fn10_readHole s p0).2) := by
      rw [fq10_readSymbol]
      rw [if_pos h1]
    rw [e] <;> rfl
  · have q1 := hp.2.2 h1
    refine am_if (c := ((hm_sort s) (p0).toNatClampNeg) = (2 : Int32)) (fun h2 => ?_) (fun h2 => ?_)
    · have q2 := q1.1 h2
      refine am_cx (pre := pr10_readOpening) (f := fm10_readOpening) (r := (some (.inl ((fn10_readOpening s p0).1)), (hm_w ((fn10_readOpening s p0).2)), 0, 0)) ?_ ?_ ?_ ?_
      · exact ⟨s, p0, rfl, rfl, q2.1⟩
      · exact fe10_readOpening s p0
      · exact rfl
      refine am_ci (c := am_fit .boolean (.inl (fn10_readOpening s p0).1) = true) q2.2 ?_
      have e : fn10_readSymbol s p0 = ((fn10_readOpening s p0).1, (fn10_readOpening s p0).2) := by
        rw [fq10_readSymbol]
        rw [if_neg h1, if_pos h2]
      rw [e] <;> rfl
    · have q2 := q1.2 h2
      refine am_if (c := ((hm_sort s) (p0).toNatClampNeg) = (3 : Int32)) (fun h3 => ?_) (fun h3 => ?_)
      · have q3 := q2.1 h3
        refine am_cx (pre := pr10_readOpening) (f := fm10_readOpening) (r := (some (.inl ((fn10_readOpening s p0).1)), (hm_w ((fn10_readOpening s p0).2)), 0, 0)) ?_ ?_ ?_ ?_
        · exact ⟨s, p0, rfl, rfl, q3.1⟩
        · exact fe10_readOpening s p0
        · exact rfl
        refine am_ci (c := am_fit .boolean (.inl (fn10_readOpening s p0).1) = true) q3.2 ?_
        have e : fn10_readSymbol s p0 = ((fn10_readOpening s p0).1, (fn10_readOpening s p0).2) := by
          rw [fq10_readSymbol]
          rw [if_neg h1, if_neg h2, if_pos h3]
        rw [e] <;> rfl
      · have q3 := q2.2 h3
        refine am_if (c := ((hm_sort s) (p0).toNatClampNeg) = (4 : Int32)) (fun h4 => ?_) (fun h4 => ?_)
        · have q4 := q3.1 h4
          refine am_cx (pre := pr10_readOtherwise) (f := fm10_readOtherwise) (r := (some (.inl ((fn10_readOtherwise s p0).1)), (hm_w ((fn10_readOtherwise s p0).2)), 0, 0)) ?_ ?_ ?_ ?_
          · exact ⟨s, p0, rfl, rfl, q4.1⟩
          · exact fe10_readOtherwise s p0
          · exact rfl
          refine am_ci (c := am_fit .boolean (.inl (fn10_readOtherwise s p0).1) = true) q4.2 ?_
          have e : fn10_readSymbol s p0 = ((fn10_readOtherwise s p0).1, (fn10_readOtherwise s p0).2) := by
            rw [fq10_readSymbol]
            rw [if_neg h1, if_neg h2, if_neg h3, if_pos h4]
          rw [e] <;> rfl
        · have q4 := q3.2 h4
          refine am_if (c := ((hm_sort s) (p0).toNatClampNeg) = (5 : Int32)) (fun h5 => ?_) (fun h5 => ?_)
          · have q5 := q4.1 h5
            refine am_cx (pre := pr10_readClose) (f := fm10_readClose) (r := (some (.inl ((fn10_readClose s p0).1)), (hm_w ((fn10_readClose s p0).2)), 0, 0)) ?_ ?_ ?_ ?_
            · exact ⟨s, p0, rfl, rfl, q5.1⟩
            · exact fe10_readClose s p0
            · exact rfl
            refine am_ci (c := am_fit .boolean (.inl (fn10_readClose s p0).1) = true) q5.2 ?_
            have e : fn10_readSymbol s p0 = ((fn10_readClose s p0).1, (fn10_readClose s p0).2) := by
              rw [fq10_readSymbol]
              rw [if_neg h1, if_neg h2, if_neg h3, if_neg h4, if_pos h5]
            rw [e] <;> rfl
          · have e : fn10_readSymbol s p0 = ((0 : Int32), s) := by
              rw [fq10_readSymbol]
              rw [if_neg h1, if_neg h2, if_neg h3, if_neg h4, if_neg h5]
            rw [e] <;> rfl
abbrev pr10_readSymbol : List am_V → List am_C → Prop := fun a w => ∃ (s : hs) (p0 : Int32), a = [.inr (.inl 0), .inl p0] ∧ w = (hm_w s) ∧ wp10_readSymbol s p0
noncomputable def fm10_readSymbol : am_M := fun a w => (fun (z : Int32 × hs) => (some (.inl (z.1)), (hm_w (z.2)), 0, 0)) (fn10_readSymbol (hm_st w 0) (am_i (am_an a 1)))
theorem fe10_readSymbol (s : hs) (p0 : Int32) : fm10_readSymbol [.inr (.inl 0), .inl p0] (hm_w s) = (some (.inl ((fn10_readSymbol s p0).1)), (hm_w ((fn10_readSymbol s p0).2)), 0, 0) := rfl
set_option maxRecDepth 100000 in
set_option maxHeartbeats 4000000 in
theorem rn10_readSymbol : ∀ (a : List am_V) (w : List am_C), pr10_readSymbol a w → ∃ nq, am_ev (am_mk kb10_readSymbol (fm10_readSymbol a w).2.2.1 (fm10_readSymbol a w).2.2.2 w.length) [] nq (0, am_L0 a 2, [], w, 0, 0) = some ((fm10_readSymbol a w).1, (fm10_readSymbol a w).2.1) := by
  rintro a w ⟨s, p0, rfl, rfl, hp⟩
  rw [fe10_readSymbol s p0]
  exact am_lf_ev (re10_readSymbol s p0 hp)
theorem rl10_readSymbol : ∀ (a : List am_V) (w : List am_C), pr10_readSymbol a w → a.length ≤ 2 := by
  rintro a w ⟨s, p0, rfl, rfl, hp⟩
  exact Nat.le_of_ble_eq_true rfl
theorem pa10_readSymbol : ∀ a w, pr10_readSymbol a w → ∃ q a' ci fs r, a = .inr (.inl q) :: a' ∧ w[q]? = some (.inr (ci, fs)) ∧ hn_cl[ci]? = some r ∧ r.1 = hn_R10 := by
  rintro a w ⟨s, p0, rfl, rfl, hp⟩
  exact ⟨0, _, 10, _, _, rfl, rfl, rfl, rfl⟩
set_option maxRecDepth 100000 in
set_option maxHeartbeats 4000000 in
theorem km10_readSymbol {l : Launch} {E : (Nat → Prop) → State → Prop} {D : va_G} {ou : Nat → Nat} {ca : Nat → ClassId} (hE : am_EC E) : hg_Met l E D ou ca hy10_readSymbol prog_12_method_45_code 2 (some .boolean) 2 pr10_readSymbol fm10_readSymbol := by
  refine am_met (B := kb10_readSymbol) (cuts := []) (nt := 5) (by decide +kernel) rfl rfl (hg_tys_ok ca) ?_ (by decide) rl10_readSymbol ?_ rn10_readSymbol
  · exact fun t ht => List.mem_cons_of_mem _ (hg_arr t ht)
  · intro a w hp ad p e R s m args below meth c hR X hEs hnm
    have hR1 : 2 ≤ R.frames ∧ 80 ≤ R.locals := by rw [hR]; exact ⟨Nat.le_refl _, Nat.le_refl _⟩
    refine ⟨kd10_readSymbol_ok, fun index ci fi mode hq => kf10_ok X.2.2.2.2.1 (index, ci, fi, mode) (am_as_mem hq), fun index ci fs hq => (am_no hq).elim, fun x v hq => (am_no hq).elim, ?_, fun o t n f hq => (am_no hq).elim, rfl, rfl, by rw [hR]; exact Nat.le_refl _, by rw [hR]; exact Nat.le_refl _⟩
    intro pc sel n0 pre0 f0 hq
    have hz : ∀ q ∈ ki10_readSymbol, am_CK p l e R s m args below meth c D hn_cl (va_A (am_w ad ou ca w) s.heap.size) ou ca 2 q.1 q.2.2.1 q.2.2.2.1 q.2.2.2.2 := by
      refine am_allc (am_ck_V (n := 1) X hEs hE (km10_readHole hE) (hg_good (gw_mem 1240 (by decide +kernel))) rfl (List.mem_cons_of_mem _ (gw_mem 76 (by decide +kernel))) (List.mem_cons_of_mem _ (gw_mem 1237 (by decide +kernel))) (List.mem_cons_of_mem _ (gw_mem 1239 (by decide +kernel))) (List.mem_cons_of_mem _ (gw_mem 42 (by decide +kernel))) pa10_readHole (by decide +kernel) ⟨Nat.le_trans (by decide) hR1.1, Nat.le_trans (by decide) hR1.2⟩ (kd10_readSymbol_ok (42, .invokevirtual 225, 3) (List.mem_of_getElem? (i := 7) rfl))) (am_allc (am_ck_V (n := 1) X hEs hE (km10_readOpening hE) (hg_good (gw_mem 1248 (by decide +kernel))) rfl (List.mem_cons_of_mem _ (gw_mem 76 (by decide +kernel))) (List.mem_cons_of_mem _ (gw_mem 1245 (by decide +kernel))) (List.mem_cons_of_mem _ (gw_mem 1247 (by decide +kernel))) (List.mem_cons_of_mem _ (gw_mem 44 (by decide +kernel))) pa10_readOpening (by decide +kernel) ⟨Nat.le_trans (by decide) hR1.1, Nat.le_trans (by decide) hR1.2⟩ (kd10_readSymbol_ok (48, .invokevirtual 228, 3) (List.mem_of_getElem? (i := 11) rfl))) (am_allc (am_ck_V (n := 1) X hEs hE (km10_readOtherwise hE) (hg_good (gw_mem 1256 (by decide +kernel))) rfl (List.mem_cons_of_mem _ (gw_mem 76 (by decide +kernel))) (List.mem_cons_of_mem _ (gw_mem 1253 (by decide +kernel))) (List.mem_cons_of_mem _ (gw_mem 1255 (by decide +kernel))) (List.mem_cons_of_mem _ (gw_mem 46 (by decide +kernel))) pa10_readOtherwise (by decide +kernel) ⟨Nat.le_trans (by decide) hR1.1, Nat.le_trans (by decide) hR1.2⟩ (kd10_readSymbol_ok (54, .invokevirtual 231, 3) (List.mem_of_getElem? (i := 15) rfl))) (am_allc (am_ck_V (n := 1) X hEs hE (km10_readClose hE) (hg_good (gw_mem 1264 (by decide +kernel))) rfl (List.mem_cons_of_mem _ (gw_mem 76 (by decide +kernel))) (List.mem_cons_of_mem _ (gw_mem 1261 (by decide +kernel))) (List.mem_cons_of_mem _ (gw_mem 1263 (by decide +kernel))) (List.mem_cons_of_mem _ (gw_mem 48 (by decide +kernel))) pa10_readClose (by decide +kernel) ⟨Nat.le_trans (by decide) hR1.1, Nat.le_trans (by decide) hR1.2⟩ (kd10_readSymbol_ok (60, .invokevirtual 234, 3) (List.mem_of_getElem? (i := 19) rfl))) (am_all0))))
    exact hz _ (am_as_mem hq)
