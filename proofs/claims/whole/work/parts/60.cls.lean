noncomputable def ki0_close : List (Nat × Option (List Nat) × Nat × (List am_V → List am_C → Prop) × am_M) := [(39, some [13], 1, pr1_packed, fm1_packed), (81, some [5, 6, 7, 8, 9, 10, 11, 12], 3, pr5_noteTurn, fm5_noteTurn), (95, some [5, 6, 7, 8, 9, 10, 11, 12], 3, pr5_noteClose, fm5_noteClose)]
noncomputable def kb0_close : am_B := (kd0_close, am_as kf0, hn_ty, fun _ => none, fun _ => none, am_as ki0_close, fun _ => none, 5, 4, (some .boolean))
noncomputable def fn0_close_c84 (y : qt0) (x : qt5) (c : qt1) (v1 : Int32) (v2 : Int32) : Int32 × qt0 × qt5 := ((1 : Int32), (qu0_openCount y v2), (fn5_noteClose x ((qg0_openSymbols y) (v2).toNatClampNeg) v1))
def wp0_close_c84 (y : qt0) (x : qt5) (c : qt1) (v1 : Int32) (v2 : Int32) : Prop := (am_inb v2 6 = true ∧ (wp5_noteClose x ((qg0_openSymbols y) (v2).toNatClampNeg) v1))
set_option maxRecDepth 100000 in
set_option maxHeartbeats 4000000 in
theorem rc0_close_84 (y : qt0) (x : qt5) (c : qt1) (v1 : Int32) (v2 : Int32) (j3 : Option am_V) (g3 : am_loO 14 j3 = true) (hp : wp0_close_c84 y x c v1 v2) : am_lf (am_mk kb0_close 0 0 14) [34, 61, 84] (84, [some (.inr (.inl 0)), some (.inl v1), some (.inl v2), j3], [], (kw_P y x c), 0, 0) = some (some (.inl ((fn0_close_c84 y x c v1 v2).1)), (kw_P ((fn0_close_c84 y x c v1 v2).2.1) ((fn0_close_c84 y x c v1 v2).2.2) c)) := by
  unfold wp0_close_c84 at hp
  refine am_lf_eq ?_
  generalize am_lf (am_mk kb0_close 0 0 14) [34, 61, 84] = kt
  refine am_ci (c := am_inb v2 6 = true) hp.1 ?_
  refine am_cy (pre := pr5_noteClose) (f := fm5_noteClose) (a' := [.inr (.inl 0), .inl ((qg0_openSymbols y) (v2).toNatClampNeg), .inl v1]) (wc := (kw_S x)) (w' := (kw_P y (fn5_noteClose x ((qg0_openSymbols y) (v2).toNatClampNeg) v1) c)) (r := (none, (kw_S (fn5_noteClose x ((qg0_openSymbols y) (v2).toNatClampNeg) v1)), 0, 0)) ?_ ?_ ?_ ?_ ?_ ?_ ?_ ?_ ?_ ?_
  · exact ks_P_S_1_o y x c
  · rfl
  · rfl
  · exact ks_P_S_1_s y x c
  · exact ⟨x, ((qg0_openSymbols y) (v2).toNatClampNeg), v1, rfl, rfl, hp.2⟩
  · exact fe5_noteClose x ((qg0_openSymbols y) (v2).toNatClampNeg) v1
  · exact kwl_S (fn5_noteClose x ((qg0_openSymbols y) (v2).toNatClampNeg) v1)
  · rfl
  · exact ks_P_S_1_m y x c (fn5_noteClose x ((qg0_openSymbols y) (v2).toNatClampNeg) v1)
  refine am_sp (w' := (kw_P (qu0_openCount y v2) (fn5_noteClose x ((qg0_openSymbols y) (v2).toNatClampNeg) v1) c)) (kp_P_0_openCount y (fn5_noteClose x ((qg0_openSymbols y) (v2).toNatClampNeg) v1) c v2) ?_
  have e : fn0_close_c84 y x c v1 v2 = ((1 : Int32), (qu0_openCount y v2), (fn5_noteClose x ((qg0_openSymbols y) (v2).toNatClampNeg) v1)) := by
    rw [fn0_close_c84]
  rw [e] <;> rfl
noncomputable def fn0_close_c61 (y : qt0) (x : qt5) (c : qt1) (v1 : Int32) (v2 : Int32) (v3 : Int32) (u0 : Int32) (u1 : Int32) : Int32 × qt0 × qt5 := (if u1 = u0 then (if v3 = 0 then (fn0_close_c84 y (fn5_noteTurn x ((qg0_openSymbols y) (v2).toNatClampNeg) v1) c v1 v2) else (fn0_close_c84 y x c v1 v2)) else ((0 : Int32), y, x))
def wp0_close_c61 (y : qt0) (x : qt5) (c : qt1) (v1 : Int32) (v2 : Int32) (v3 : Int32) (u0 : Int32) (u1 : Int32) : Prop := ((u1 = u0 → ((v3 = 0 → (am_inb v2 6 = true ∧ ((wp5_noteTurn x ((qg0_openSymbols y) (v2).toNatClampNeg) v1) ∧ (wp0_close_c84 y (fn5_noteTurn x ((qg0_openSymbols y) (v2).toNatClampNeg) v1) c v1 v2)))) ∧ (¬ v3 = 0 → (wp0_close_c84 y x c v1 v2)))) ∧ (¬ u1 = u0 → True))
set_option maxRecDepth 100000 in
set_option maxHeartbeats 4000000 in
theorem rc0_close_61 (y : qt0) (x : qt5) (c : qt1) (v1 : Int32) (v2 : Int32) (v3 : Int32) (u0 : Int32) (u1 : Int32) (hp : wp0_close_c61 y x c v1 v2 v3 u0 u1) : am_lf (am_mk kb0_close 0 0 14) [34, 61, 84] (61, [some (.inr (.inl 0)), some (.inl v1), some (.inl v2), some (.inl v3)], [.inl u0, .inl u1], (kw_P y x c), 0, 0) = some (some (.inl ((fn0_close_c61 y x c v1 v2 v3 u0 u1).1)), (kw_P ((fn0_close_c61 y x c v1 v2 v3 u0 u1).2.1) ((fn0_close_c61 y x c v1 v2 v3 u0 u1).2.2) c)) := by
  unfold wp0_close_c61 at hp
  have i84 := @rc0_close_84
  refine am_lf_eq ?_
  generalize am_lf (am_mk kb0_close 0 0 14) [34, 61, 84] = kt at i84 ⊢
  refine am_if (c := u1 = u0) (fun h1 => ?_) (fun h1 => ?_)
  · have q1 := hp.1 h1
    refine am_if (c := v3 = 0) (fun h2 => ?_) (fun h2 => ?_)
    · have q2 := q1.1 h2
      refine am_ci (c := am_inb v2 6 = true) q2.1 ?_
      refine am_cy (pre := pr5_noteTurn) (f := fm5_noteTurn) (a' := [.inr (.inl 0), .inl ((qg0_openSymbols y) (v2).toNatClampNeg), .inl v1]) (wc := (kw_S x)) (w' := (kw_P y (fn5_noteTurn x ((qg0_openSymbols y) (v2).toNatClampNeg) v1) c)) (r := (none, (kw_S (fn5_noteTurn x ((qg0_openSymbols y) (v2).toNatClampNeg) v1)), 0, 0)) ?_ ?_ ?_ ?_ ?_ ?_ ?_ ?_ ?_ ?_
      · exact ks_P_S_1_o y x c
      · rfl
      · rfl
      · exact ks_P_S_1_s y x c
      · exact ⟨x, ((qg0_openSymbols y) (v2).toNatClampNeg), v1, rfl, rfl, q2.2.1⟩
      · exact fe5_noteTurn x ((qg0_openSymbols y) (v2).toNatClampNeg) v1
      · exact kwl_S (fn5_noteTurn x ((qg0_openSymbols y) (v2).toNatClampNeg) v1)
      · rfl
      · exact ks_P_S_1_m y x c (fn5_noteTurn x ((qg0_openSymbols y) (v2).toNatClampNeg) v1)
      have e : fn0_close_c61 y x c v1 v2 v3 u0 u1 = fn0_close_c84 y (fn5_noteTurn x ((qg0_openSymbols y) (v2).toNatClampNeg) v1) c v1 v2 := by
        rw [fn0_close_c61]
        rw [if_pos h1, if_pos h2]
      rw [e]
      exact i84 y (fn5_noteTurn x ((qg0_openSymbols y) (v2).toNatClampNeg) v1) c v1 v2 _ rfl q2.2.2
    · have q2 := q1.2 h2
      have e : fn0_close_c61 y x c v1 v2 v3 u0 u1 = fn0_close_c84 y x c v1 v2 := by
        rw [fn0_close_c61]
        rw [if_pos h1, if_neg h2]
      rw [e]
      exact i84 y x c v1 v2 _ rfl q2
  · have e : fn0_close_c61 y x c v1 v2 v3 u0 u1 = ((0 : Int32), y, x) := by
      rw [fn0_close_c61]
      rw [if_neg h1]
    rw [e] <;> rfl
noncomputable def fn0_close_c34 (y : qt0) (x : qt5) (c : qt1) (v1 : Int32) (v2 : Int32) (u0 : Int32) : Int32 × qt0 × qt5 := (if u0 = 0 then (fn0_close_c61 y x c v1 v2 u0 ((qg0_openContexts y) (v2).toNatClampNeg) (fn1_packed c)) else (fn0_close_c61 y x c v1 v2 u0 ((qg0_turnContexts y) (v2).toNatClampNeg) (fn1_packed c)))
def wp0_close_c34 (y : qt0) (x : qt5) (c : qt1) (v1 : Int32) (v2 : Int32) (u0 : Int32) : Prop := ((wp1_packed c) ∧ ((u0 = 0 → (am_inb v2 6 = true ∧ (wp0_close_c61 y x c v1 v2 u0 ((qg0_openContexts y) (v2).toNatClampNeg) (fn1_packed c)))) ∧ (¬ u0 = 0 → (am_inb v2 6 = true ∧ (wp0_close_c61 y x c v1 v2 u0 ((qg0_turnContexts y) (v2).toNatClampNeg) (fn1_packed c))))))
set_option maxRecDepth 100000 in
set_option maxHeartbeats 4000000 in
theorem rc0_close_34 (y : qt0) (x : qt5) (c : qt1) (v1 : Int32) (v2 : Int32) (u0 : Int32) (j3 : Option am_V) (g3 : am_loO 14 j3 = true) (hp : wp0_close_c34 y x c v1 v2 u0) : am_lf (am_mk kb0_close 0 0 14) [34, 61, 84] (34, [some (.inr (.inl 0)), some (.inl v1), some (.inl v2), j3], [.inl u0], (kw_P y x c), 0, 0) = some (some (.inl ((fn0_close_c34 y x c v1 v2 u0).1)), (kw_P ((fn0_close_c34 y x c v1 v2 u0).2.1) ((fn0_close_c34 y x c v1 v2 u0).2.2) c)) := by
  unfold wp0_close_c34 at hp
  have i61 := @rc0_close_61
  refine am_lf_eq ?_
  generalize am_lf (am_mk kb0_close 0 0 14) [34, 61, 84] = kt at i61 ⊢
  refine am_cy (pre := pr1_packed) (f := fm1_packed) (a' := [.inr (.inl 0)]) (wc := (kw_C c)) (w' := (kw_P y x c)) (r := (some (.inl (fn1_packed c)), (kw_C c), 0, 0)) ?_ ?_ ?_ ?_ ?_ ?_ ?_ ?_ ?_ ?_
  · exact ks_P_C_2_o y x c
  · rfl
  · rfl
  · exact ks_P_C_2_s y x c
  · exact ⟨c, rfl, rfl, hp.1⟩
  · exact fe1_packed c
  · exact kwl_C c
  · rfl
  · exact ks_P_C_2_m y x c c
  refine am_if (c := u0 = 0) (fun h1 => ?_) (fun h1 => ?_)
  · have q1 := hp.2.1 h1
    refine am_ci (c := am_inb v2 6 = true) q1.1 ?_
    have e : fn0_close_c34 y x c v1 v2 u0 = fn0_close_c61 y x c v1 v2 u0 ((qg0_openContexts y) (v2).toNatClampNeg) (fn1_packed c) := by
      rw [fn0_close_c34]
      rw [if_pos h1]
    rw [e]
    exact i61 y x c v1 v2 u0 ((qg0_openContexts y) (v2).toNatClampNeg) (fn1_packed c)  q1.2
  · have q1 := hp.2.2 h1
    refine am_ci (c := am_inb v2 6 = true) q1.1 ?_
    have e : fn0_close_c34 y x c v1 v2 u0 = fn0_close_c61 y x c v1 v2 u0 ((qg0_turnContexts y) (v2).toNatClampNeg) (fn1_packed c) := by
      rw [fn0_close_c34]
      rw [if_neg h1]
    rw [e]
    exact i61 y x c v1 v2 u0 ((qg0_turnContexts y) (v2).toNatClampNeg) (fn1_packed c)  q1.2
noncomputable def fn0_close (y : qt0) (x : qt5) (c : qt1) (p0 : Int32) : Int32 × qt0 × qt5 := Classical.choose (⟨_, rfl⟩ : ∃ z : Int32 × qt0 × qt5, z = (if ((qg0_openCount y) - (1 : Int32)) < 0 then ((0 : Int32), y, x) else (if ((qg0_openCount y) - (1 : Int32)) < (6 : Int32) then (if ((qg0_turnContexts y) (((qg0_openCount y) - (1 : Int32))).toNatClampNeg) = (-1 : Int32) then (fn0_close_c34 y x c p0 ((qg0_openCount y) - (1 : Int32)) (0 : Int32)) else (fn0_close_c34 y x c p0 ((qg0_openCount y) - (1 : Int32)) (1 : Int32))) else ((0 : Int32), y, x))))
theorem fq0_close (y : qt0) (x : qt5) (c : qt1) (p0 : Int32) : fn0_close y x c p0 = (if ((qg0_openCount y) - (1 : Int32)) < 0 then ((0 : Int32), y, x) else (if ((qg0_openCount y) - (1 : Int32)) < (6 : Int32) then (if ((qg0_turnContexts y) (((qg0_openCount y) - (1 : Int32))).toNatClampNeg) = (-1 : Int32) then (fn0_close_c34 y x c p0 ((qg0_openCount y) - (1 : Int32)) (0 : Int32)) else (fn0_close_c34 y x c p0 ((qg0_openCount y) - (1 : Int32)) (1 : Int32))) else ((0 : Int32), y, x))) := Classical.choose_spec (⟨_, rfl⟩ : ∃ z : Int32 × qt0 × qt5, z = (if ((qg0_openCount y) - (1 : Int32)) < 0 then ((0 : Int32), y, x) else (if ((qg0_openCount y) - (1 : Int32)) < (6 : Int32) then (if ((qg0_turnContexts y) (((qg0_openCount y) - (1 : Int32))).toNatClampNeg) = (-1 : Int32) then (fn0_close_c34 y x c p0 ((qg0_openCount y) - (1 : Int32)) (0 : Int32)) else (fn0_close_c34 y x c p0 ((qg0_openCount y) - (1 : Int32)) (1 : Int32))) else ((0 : Int32), y, x))))
def wp0_close (y : qt0) (x : qt5) (c : qt1) (p0 : Int32) : Prop := ((((qg0_openCount y) - (1 : Int32)) < 0 → True) ∧ (¬ ((qg0_openCount y) - (1 : Int32)) < 0 → ((((qg0_openCount y) - (1 : Int32)) < (6 : Int32) → (am_inb ((qg0_openCount y) - (1 : Int32)) 6 = true ∧ ((((qg0_turnContexts y) (((qg0_openCount y) - (1 : Int32))).toNatClampNeg) = (-1 : Int32) → (wp0_close_c34 y x c p0 ((qg0_openCount y) - (1 : Int32)) (0 : Int32))) ∧ (¬ ((qg0_turnContexts y) (((qg0_openCount y) - (1 : Int32))).toNatClampNeg) = (-1 : Int32) → (wp0_close_c34 y x c p0 ((qg0_openCount y) - (1 : Int32)) (1 : Int32)))))) ∧ (¬ ((qg0_openCount y) - (1 : Int32)) < (6 : Int32) → True))))
set_option maxRecDepth 100000 in
set_option maxHeartbeats 4000000 in
theorem re0_close (y : qt0) (x : qt5) (c : qt1) (p0 : Int32) (hp : wp0_close y x c p0) : am_lf (am_mk kb0_close 0 0 14) [34, 61, 84] (0, am_L0 [.inr (.inl 0), .inl p0] 4, [], (kw_P y x c), 0, 0) = some (some (.inl ((fn0_close y x c p0).1)), (kw_P ((fn0_close y x c p0).2.1) ((fn0_close y x c p0).2.2) c)) := by
  unfold wp0_close at hp
  have i34 := @rc0_close_34
  refine am_lf_eq ?_
  generalize am_lf (am_mk kb0_close 0 0 14) [34, 61, 84] = kt at i34 ⊢
  refine am_if (c := ((qg0_openCount y) - (1 : Int32)) < 0) (fun h1 => ?_) (fun h1 => ?_)
  · have e : fn0_close y x c p0 = ((0 : Int32), y, x) := by
      rw [fq0_close]
      rw [if_pos h1]
    rw [e] <;> rfl
  · have q1 := hp.2 h1
    refine am_if (c := ((qg0_openCount y) - (1 : Int32)) < (6 : Int32)) (fun h2 => ?_) (fun h2 => ?_)
    · have q2 := q1.1 h2
      refine am_ci (c := am_inb ((qg0_openCount y) - (1 : Int32)) 6 = true) q2.1 ?_
      refine am_if (c := ((qg0_turnContexts y) (((qg0_openCount y) - (1 : Int32))).toNatClampNeg) = (-1 : Int32)) (fun h3 => ?_) (fun h3 => ?_)
      · have q3 := q2.2.1 h3
        have e : fn0_close y x c p0 = fn0_close_c34 y x c p0 ((qg0_openCount y) - (1 : Int32)) (0 : Int32) := by
          rw [fq0_close]
          rw [if_neg h1, if_pos h2, if_pos h3]
        rw [e]
        exact i34 y x c p0 ((qg0_openCount y) - (1 : Int32)) (0 : Int32) _ rfl q3
      · have q3 := q2.2.2 h3
        have e : fn0_close y x c p0 = fn0_close_c34 y x c p0 ((qg0_openCount y) - (1 : Int32)) (1 : Int32) := by
          rw [fq0_close]
          rw [if_neg h1, if_pos h2, if_neg h3]
        rw [e]
        exact i34 y x c p0 ((qg0_openCount y) - (1 : Int32)) (1 : Int32) _ rfl q3
    · have e : fn0_close y x c p0 = ((0 : Int32), y, x) := by
        rw [fq0_close]
        rw [if_neg h1, if_neg h2]
      rw [e] <;> rfl
abbrev pr0_close : List am_V → List am_C → Prop := fun a w => ∃ (y : qt0) (x : qt5) (c : qt1) (p0 : Int32), a = [.inr (.inl 0), .inl p0] ∧ w = (kw_P y x c) ∧ wp0_close y x c p0
noncomputable def fm0_close : am_M := fun a w => (fun (z : Int32 × qt0 × qt5) => (some (.inl (z.1)), (kw_P (z.2.1) (z.2.2) (qs1 w 13)), 0, 0)) (fn0_close (qs0 w 0) (qs5 w 5) (qs1 w 13) (am_i (am_an a 1)))
theorem fe0_close (y : qt0) (x : qt5) (c : qt1) (p0 : Int32) : fm0_close [.inr (.inl 0), .inl p0] (kw_P y x c) = (some (.inl ((fn0_close y x c p0).1)), (kw_P ((fn0_close y x c p0).2.1) ((fn0_close y x c p0).2.2) c), 0, 0) := rfl
set_option maxRecDepth 100000 in
set_option maxHeartbeats 4000000 in
theorem rn0_close : ∀ (a : List am_V) (w : List am_C), pr0_close a w → ∃ nq, am_ev (am_mk kb0_close (fm0_close a w).2.2.1 (fm0_close a w).2.2.2 w.length) [34, 61, 84] nq (0, am_L0 a 4, [], w, 0, 0) = some ((fm0_close a w).1, (fm0_close a w).2.1) := by
  rintro a w ⟨y, x, c, p0, rfl, rfl, hp⟩
  rw [fe0_close y x c p0]
  exact am_lf_ev (re0_close y x c p0 hp)
theorem rl0_close : ∀ (a : List am_V) (w : List am_C), pr0_close a w → a.length ≤ 4 := by
  rintro a w ⟨y, x, c, p0, rfl, rfl, hp⟩
  exact Nat.le_of_ble_eq_true rfl
theorem pa0_close : ∀ a w, pr0_close a w → ∃ q a' ci fs r, a = .inr (.inl q) :: a' ∧ w[q]? = some (.inr (ci, fs)) ∧ hn_cl[ci]? = some r ∧ r.1 = hn_R0 := by
  rintro a w ⟨y, x, c, p0, rfl, rfl, hp⟩
  exact ⟨0, _, 0, _, _, rfl, rfl, rfl, rfl⟩
set_option maxRecDepth 100000 in
set_option maxHeartbeats 4000000 in
theorem km0_close {l : Launch} {E : (Nat → Prop) → State → Prop} {D : va_G} {ou : Nat → Nat} {ca : Nat → ClassId} (hE : hg_E E ou) : hg_Met l E D ou ca hy0_close prog_2_method_8_code 4 (some .boolean) 2 pr0_close fm0_close := by
  refine am_met (B := kb0_close) (cuts := [34, 61, 84]) (nt := 5) (by decide +kernel) rfl rfl (hg_tys_ok ca) ?_ (by decide) rl0_close ?_ rn0_close
  · exact fun t ht => List.mem_cons_of_mem _ (hg_arr t ht)
  · intro a w hp ad p e R s m args below meth c hR X hEs hnm
    have hR1 : 2 ≤ R.frames ∧ 80 ≤ R.locals := by rw [hR]; exact ⟨Nat.le_refl _, Nat.le_refl _⟩
    have hN := hE.2.1 _ _ hEs
    refine ⟨kd0_close_ok, fun index ci fi mode hq => kf0_ok X.2.2.2.2.1 hN.1 (index, ci, fi, mode) (am_as_mem hq), fun index ci fs hq => (am_no hq).elim, fun x v hq => (am_no hq).elim, ?_, fun o t n f hq => (am_no hq).elim, rfl, rfl, by rw [hR]; exact Nat.le_refl _, by rw [hR]; exact Nat.le_refl _⟩
    intro pc sel n0 pre0 f0 hq
    have hz : ∀ q ∈ ki0_close, am_CK p l e R s m args below meth c D hn_cl (va_A (am_w ad ou ca w) s.heap.size) ou ca 4 q.1 q.2.2.1 q.2.2.2.1 q.2.2.2.2 := by
      refine am_allc (am_ck_V (n := 0) X hEs hE.1 (km1_packed hE) (hg_good (gw_mem 541 (by decide +kernel))) rfl (List.mem_cons_of_mem _ (gw_mem 74 (by decide +kernel))) (List.mem_cons_of_mem _ (gw_mem 538 (by decide +kernel))) (List.mem_cons_of_mem _ (gw_mem 539 (by decide +kernel))) (List.mem_cons_of_mem _ (gw_mem 540 (by decide +kernel))) pa1_packed (by decide +kernel) ⟨Nat.le_trans (by decide) hR1.1, Nat.le_trans (by decide) hR1.2⟩ (kd0_close_ok (39, .invokevirtual 112, 3) (List.mem_of_getElem? (i := 24) rfl))) (am_allc (am_ck_V (n := 2) X hEs hE.1 (km5_noteTurn hE) (hg_good (gw_mem 553 (by decide +kernel))) rfl (List.mem_cons_of_mem _ (gw_mem 73 (by decide +kernel))) (List.mem_cons_of_mem _ (gw_mem 550 (by decide +kernel))) (List.mem_cons_of_mem _ (gw_mem 551 (by decide +kernel))) (List.mem_cons_of_mem _ (gw_mem 552 (by decide +kernel))) pa5_noteTurn (by decide +kernel) ⟨Nat.le_trans (by decide) hR1.1, Nat.le_trans (by decide) hR1.2⟩ (kd0_close_ok (81, .invokevirtual 118, 3) (List.mem_of_getElem? (i := 48) rfl))) (am_allc (am_ck_V (n := 2) X hEs hE.1 (km5_noteClose hE) (hg_good (gw_mem 561 (by decide +kernel))) rfl (List.mem_cons_of_mem _ (gw_mem 73 (by decide +kernel))) (List.mem_cons_of_mem _ (gw_mem 558 (by decide +kernel))) (List.mem_cons_of_mem _ (gw_mem 559 (by decide +kernel))) (List.mem_cons_of_mem _ (gw_mem 560 (by decide +kernel))) pa5_noteClose (by decide +kernel) ⟨Nat.le_trans (by decide) hR1.1, Nat.le_trans (by decide) hR1.2⟩ (kd0_close_ok (95, .invokevirtual 121, 3) (List.mem_of_getElem? (i := 56) rfl))) (am_all0)))
    exact hz _ (am_as_mem hq)
noncomputable def ki0_readSymbol : List (Nat × Option (List Nat) × Nat × (List am_V → List am_C → Prop) × am_M) := [(5, some [5, 6, 7, 8, 9, 10, 11, 12], 2, pr5_kind, fm5_kind), (46, none, 2, pr0_readHole, fm0_readHole), (55, none, 2, pr0_open, fm0_open), (64, none, 2, pr0_turn, fm0_turn), (73, none, 2, pr0_close, fm0_close)]
noncomputable def kb0_readSymbol : am_B := (kd0_readSymbol, am_as kf0, hn_ty, fun _ => none, fun _ => none, am_as ki0_readSymbol, fun _ => none, 5, 3, (some .int))
noncomputable def fn0_readSymbol_c82 (y : qt0) (x : qt5) (c : qt1) (v2 : Int32) : Int32 × qt0 × qt5 × qt1 := (if v2 = 0 then ((0 : Int32), y, x, c) else ((1 : Int32), y, x, c))
def wp0_readSymbol_c82 (y : qt0) (x : qt5) (c : qt1) (v2 : Int32) : Prop := True
set_option maxRecDepth 100000 in
set_option maxHeartbeats 4000000 in
theorem rc0_readSymbol_82 (y : qt0) (x : qt5) (c : qt1) (v2 : Int32) (j1 : Option am_V) (g1 : am_loO 14 j1 = true) (hp : wp0_readSymbol_c82 y x c v2) : am_lf (am_mk kb0_readSymbol 0 0 14) [82] (82, [some (.inr (.inl 0)), j1, some (.inl v2)], [], (kw_P y x c), 0, 0) = some (some (.inl ((fn0_readSymbol_c82 y x c v2).1)), (kw_P ((fn0_readSymbol_c82 y x c v2).2.1) ((fn0_readSymbol_c82 y x c v2).2.2.1) ((fn0_readSymbol_c82 y x c v2).2.2.2))) := by
  unfold wp0_readSymbol_c82 at hp
  refine am_lf_eq ?_
  generalize am_lf (am_mk kb0_readSymbol 0 0 14) [82] = kt
  refine am_if (c := v2 = 0) (fun h1 => ?_) (fun h1 => ?_)
  · have e : fn0_readSymbol_c82 y x c v2 = ((0 : Int32), y, x, c) := by
      rw [fn0_readSymbol_c82]
      rw [if_pos h1]
    rw [e] <;> rfl
  · have e : fn0_readSymbol_c82 y x c v2 = ((1 : Int32), y, x, c) := by
      rw [fn0_readSymbol_c82]
      rw [if_neg h1]
    rw [e] <;> rfl
noncomputable def fn0_readSymbol (y : qt0) (x : qt5) (c : qt1) (p0 : Int32) : Int32 × qt0 × qt5 × qt1 := Classical.choose (⟨_, rfl⟩ : ∃ z : Int32 × qt0 × qt5 × qt1, z = (if (fn5_kind x p0) = (2 : Int32) then (fn0_readSymbol_c82 ((fn0_readHole y x c p0).2.1) ((fn0_readHole y x c p0).2.2.1) ((fn0_readHole y x c p0).2.2.2) ((fn0_readHole y x c p0).1)) else (if (fn5_kind x p0) = (3 : Int32) then (fn0_readSymbol_c82 ((fn0_open y x c p0).2) x c ((fn0_open y x c p0).1)) else (if (fn5_kind x p0) = (4 : Int32) then (fn0_readSymbol_c82 ((fn0_open y x c p0).2) x c ((fn0_open y x c p0).1)) else (if (fn5_kind x p0) = (5 : Int32) then (fn0_readSymbol_c82 ((fn0_turn y x c p0).2.1) ((fn0_turn y x c p0).2.2.1) ((fn0_turn y x c p0).2.2.2) ((fn0_turn y x c p0).1)) else (if (fn5_kind x p0) = (6 : Int32) then (fn0_readSymbol_c82 ((fn0_close y x c p0).2.1) ((fn0_close y x c p0).2.2) c ((fn0_close y x c p0).1)) else (fn0_readSymbol_c82 y x c (0 : Int32))))))))
theorem fq0_readSymbol (y : qt0) (x : qt5) (c : qt1) (p0 : Int32) : fn0_readSymbol y x c p0 = (if (fn5_kind x p0) = (2 : Int32) then (fn0_readSymbol_c82 ((fn0_readHole y x c p0).2.1) ((fn0_readHole y x c p0).2.2.1) ((fn0_readHole y x c p0).2.2.2) ((fn0_readHole y x c p0).1)) else (if (fn5_kind x p0) = (3 : Int32) then (fn0_readSymbol_c82 ((fn0_open y x c p0).2) x c ((fn0_open y x c p0).1)) else (if (fn5_kind x p0) = (4 : Int32) then (fn0_readSymbol_c82 ((fn0_open y x c p0).2) x c ((fn0_open y x c p0).1)) else (if (fn5_kind x p0) = (5 : Int32) then (fn0_readSymbol_c82 ((fn0_turn y x c p0).2.1) ((fn0_turn y x c p0).2.2.1) ((fn0_turn y x c p0).2.2.2) ((fn0_turn y x c p0).1)) else (if (fn5_kind x p0) = (6 : Int32) then (fn0_readSymbol_c82 ((fn0_close y x c p0).2.1) ((fn0_close y x c p0).2.2) c ((fn0_close y x c p0).1)) else (fn0_readSymbol_c82 y x c (0 : Int32))))))) := Classical.choose_spec (⟨_, rfl⟩ : ∃ z : Int32 × qt0 × qt5 × qt1, z = (if (fn5_kind x p0) = (2 : Int32) then (fn0_readSymbol_c82 ((fn0_readHole y x c p0).2.1) ((fn0_readHole y x c p0).2.2.1) ((fn0_readHole y x c p0).2.2.2) ((fn0_readHole y x c p0).1)) else (if (fn5_kind x p0) = (3 : Int32) then (fn0_readSymbol_c82 ((fn0_open y x c p0).2) x c ((fn0_open y x c p0).1)) else (if (fn5_kind x p0) = (4 : Int32) then (fn0_readSymbol_c82 ((fn0_open y x c p0).2) x c ((fn0_open y x c p0).1)) else (if (fn5_kind x p0) = (5 : Int32) then (fn0_readSymbol_c82 ((fn0_turn y x c p0).2.1) ((fn0_turn y x c p0).2.2.1) ((fn0_turn y x c p0).2.2.2) ((fn0_turn y x c p0).1)) else (if (fn5_kind x p0) = (6 : Int32) then (fn0_readSymbol_c82 ((fn0_close y x c p0).2.1) ((fn0_close y x c p0).2.2) c ((fn0_close y x c p0).1)) else (fn0_readSymbol_c82 y x c (0 : Int32))))))))
def wp0_readSymbol (y : qt0) (x : qt5) (c : qt1) (p0 : Int32) : Prop := ((wp5_kind x p0) ∧ (((fn5_kind x p0) = (2 : Int32) → ((wp0_readHole y x c p0) ∧ (wp0_readSymbol_c82 ((fn0_readHole y x c p0).2.1) ((fn0_readHole y x c p0).2.2.1) ((fn0_readHole y x c p0).2.2.2) ((fn0_readHole y x c p0).1)))) ∧ (¬ (fn5_kind x p0) = (2 : Int32) → (((fn5_kind x p0) = (3 : Int32) → ((wp0_open y x c p0) ∧ (wp0_readSymbol_c82 ((fn0_open y x c p0).2) x c ((fn0_open y x c p0).1)))) ∧ (¬ (fn5_kind x p0) = (3 : Int32) → (((fn5_kind x p0) = (4 : Int32) → ((wp0_open y x c p0) ∧ (wp0_readSymbol_c82 ((fn0_open y x c p0).2) x c ((fn0_open y x c p0).1)))) ∧ (¬ (fn5_kind x p0) = (4 : Int32) → (((fn5_kind x p0) = (5 : Int32) → ((wp0_turn y x c p0) ∧ (wp0_readSymbol_c82 ((fn0_turn y x c p0).2.1) ((fn0_turn y x c p0).2.2.1) ((fn0_turn y x c p0).2.2.2) ((fn0_turn y x c p0).1)))) ∧ (¬ (fn5_kind x p0) = (5 : Int32) → (((fn5_kind x p0) = (6 : Int32) → ((wp0_close y x c p0) ∧ (wp0_readSymbol_c82 ((fn0_close y x c p0).2.1) ((fn0_close y x c p0).2.2) c ((fn0_close y x c p0).1)))) ∧ (¬ (fn5_kind x p0) = (6 : Int32) → (wp0_readSymbol_c82 y x c (0 : Int32)))))))))))))
set_option maxRecDepth 100000 in
set_option maxHeartbeats 4000000 in
theorem re0_readSymbol (y : qt0) (x : qt5) (c : qt1) (p0 : Int32) (hp : wp0_readSymbol y x c p0) : am_lf (am_mk kb0_readSymbol 0 0 14) [82] (0, am_L0 [.inr (.inl 0), .inl p0] 3, [], (kw_P y x c), 0, 0) = some (some (.inl ((fn0_readSymbol y x c p0).1)), (kw_P ((fn0_readSymbol y x c p0).2.1) ((fn0_readSymbol y x c p0).2.2.1) ((fn0_readSymbol y x c p0).2.2.2))) := by
  unfold wp0_readSymbol at hp
  have i82 := @rc0_readSymbol_82
  refine am_lf_eq ?_
  generalize am_lf (am_mk kb0_readSymbol 0 0 14) [82] = kt at i82 ⊢
  refine am_cy (pre := pr5_kind) (f := fm5_kind) (a' := [.inr (.inl 0), .inl p0]) (wc := (kw_S x)) (w' := (kw_P y x c)) (r := (some (.inl (fn5_kind x p0)), (kw_S x), 0, 0)) ?_ ?_ ?_ ?_ ?_ ?_ ?_ ?_ ?_ ?_
  · exact ks_P_S_1_o y x c
  · rfl
  · rfl
  · exact ks_P_S_1_s y x c
  · exact ⟨x, p0, rfl, rfl, hp.1⟩
  · exact fe5_kind x p0
  · exact kwl_S x
  · rfl
  · exact ks_P_S_1_m y x c x
  refine am_if (c := (fn5_kind x p0) = (2 : Int32)) (fun h1 => ?_) (fun h1 => ?_)
  · have q1 := hp.2.1 h1
    refine am_cx (pre := pr0_readHole) (f := fm0_readHole) (r := (some (.inl ((fn0_readHole y x c p0).1)), (kw_P ((fn0_readHole y x c p0).2.1) ((fn0_readHole y x c p0).2.2.1) ((fn0_readHole y x c p0).2.2.2)), 0, 0)) ?_ ?_ ?_ ?_
    · exact ⟨y, x, c, p0, rfl, rfl, q1.1⟩
    · exact fe0_readHole y x c p0
    · exact rfl
    have e : fn0_readSymbol y x c p0 = fn0_readSymbol_c82 ((fn0_readHole y x c p0).2.1) ((fn0_readHole y x c p0).2.2.1) ((fn0_readHole y x c p0).2.2.2) ((fn0_readHole y x c p0).1) := by
      rw [fq0_readSymbol]
      rw [if_pos h1]
    rw [e]
    exact i82 ((fn0_readHole y x c p0).2.1) ((fn0_readHole y x c p0).2.2.1) ((fn0_readHole y x c p0).2.2.2) ((fn0_readHole y x c p0).1) _ rfl q1.2
  · have q1 := hp.2.2 h1
    refine am_if (c := (fn5_kind x p0) = (3 : Int32)) (fun h2 => ?_) (fun h2 => ?_)
    · have q2 := q1.1 h2
      refine am_cx (pre := pr0_open) (f := fm0_open) (r := (some (.inl ((fn0_open y x c p0).1)), (kw_P ((fn0_open y x c p0).2) x c), 0, 0)) ?_ ?_ ?_ ?_
      · exact ⟨y, x, c, p0, rfl, rfl, q2.1⟩
      · exact fe0_open y x c p0
      · exact rfl
      have e : fn0_readSymbol y x c p0 = fn0_readSymbol_c82 ((fn0_open y x c p0).2) x c ((fn0_open y x c p0).1) := by
        rw [fq0_readSymbol]
        rw [if_neg h1, if_pos h2]
      rw [e]
      exact i82 ((fn0_open y x c p0).2) x c ((fn0_open y x c p0).1) _ rfl q2.2
    · have q2 := q1.2 h2
      refine am_if (c := (fn5_kind x p0) = (4 : Int32)) (fun h3 => ?_) (fun h3 => ?_)
      · have q3 := q2.1 h3
        refine am_cx (pre := pr0_open) (f := fm0_open) (r := (some (.inl ((fn0_open y x c p0).1)), (kw_P ((fn0_open y x c p0).2) x c), 0, 0)) ?_ ?_ ?_ ?_
        · exact ⟨y, x, c, p0, rfl, rfl, q3.1⟩
        · exact fe0_open y x c p0
        · exact rfl
        have e : fn0_readSymbol y x c p0 = fn0_readSymbol_c82 ((fn0_open y x c p0).2) x c ((fn0_open y x c p0).1) := by
          rw [fq0_readSymbol]
          rw [if_neg h1, if_neg h2, if_pos h3]
        rw [e]
        exact i82 ((fn0_open y x c p0).2) x c ((fn0_open y x c p0).1) _ rfl q3.2
      · have q3 := q2.2 h3
        refine am_if (c := (fn5_kind x p0) = (5 : Int32)) (fun h4 => ?_) (fun h4 => ?_)
        · have q4 := q3.1 h4
          refine am_cx (pre := pr0_turn) (f := fm0_turn) (r := (some (.inl ((fn0_turn y x c p0).1)), (kw_P ((fn0_turn y x c p0).2.1) ((fn0_turn y x c p0).2.2.1) ((fn0_turn y x c p0).2.2.2)), 0, 0)) ?_ ?_ ?_ ?_
          · exact ⟨y, x, c, p0, rfl, rfl, q4.1⟩
          · exact fe0_turn y x c p0
          · exact rfl
          have e : fn0_readSymbol y x c p0 = fn0_readSymbol_c82 ((fn0_turn y x c p0).2.1) ((fn0_turn y x c p0).2.2.1) ((fn0_turn y x c p0).2.2.2) ((fn0_turn y x c p0).1) := by
            rw [fq0_readSymbol]
            rw [if_neg h1, if_neg h2, if_neg h3, if_pos h4]
          rw [e]
          exact i82 ((fn0_turn y x c p0).2.1) ((fn0_turn y x c p0).2.2.1) ((fn0_turn y x c p0).2.2.2) ((fn0_turn y x c p0).1) _ rfl q4.2
        · have q4 := q3.2 h4
          refine am_if (c := (fn5_kind x p0) = (6 : Int32)) (fun h5 => ?_) (fun h5 => ?_)
          · have q5 := q4.1 h5
            refine am_cx (pre := pr0_close) (f := fm0_close) (r := (some (.inl ((fn0_close y x c p0).1)), (kw_P ((fn0_close y x c p0).2.1) ((fn0_close y x c p0).2.2) c), 0, 0)) ?_ ?_ ?_ ?_
            · exact ⟨y, x, c, p0, rfl, rfl, q5.1⟩
            · exact fe0_close y x c p0
            · exact rfl
            have e : fn0_readSymbol y x c p0 = fn0_readSymbol_c82 ((fn0_close y x c p0).2.1) ((fn0_close y x c p0).2.2) c ((fn0_close y x c p0).1) := by
              rw [fq0_readSymbol]
              rw [if_neg h1, if_neg h2, if_neg h3, if_neg h4, if_pos h5]
            rw [e]
            exact i82 ((fn0_close y x c p0).2.1) ((fn0_close y x c p0).2.2) c ((fn0_close y x c p0).1) _ rfl q5.2
          · have q5 := q4.2 h5
            have e : fn0_readSymbol y x c p0 = fn0_readSymbol_c82 y x c (0 : Int32) := by
              rw [fq0_readSymbol]
              rw [if_neg h1, if_neg h2, if_neg h3, if_neg h4, if_neg h5]
            rw [e]
            exact i82 y x c (0 : Int32) _ rfl q5
abbrev pr0_readSymbol : List am_V → List am_C → Prop := fun a w => ∃ (y : qt0) (x : qt5) (c : qt1) (p0 : Int32), a = [.inr (.inl 0), .inl p0] ∧ w = (kw_P y x c) ∧ wp0_readSymbol y x c p0
noncomputable def fm0_readSymbol : am_M := fun a w => (fun (z : Int32 × qt0 × qt5 × qt1) => (some (.inl (z.1)), (kw_P (z.2.1) (z.2.2.1) (z.2.2.2)), 0, 0)) (fn0_readSymbol (qs0 w 0) (qs5 w 5) (qs1 w 13) (am_i (am_an a 1)))
theorem fe0_readSymbol (y : qt0) (x : qt5) (c : qt1) (p0 : Int32) : fm0_readSymbol [.inr (.inl 0), .inl p0] (kw_P y x c) = (some (.inl ((fn0_readSymbol y x c p0).1)), (kw_P ((fn0_readSymbol y x c p0).2.1) ((fn0_readSymbol y x c p0).2.2.1) ((fn0_readSymbol y x c p0).2.2.2)), 0, 0) := rfl
set_option maxRecDepth 100000 in
set_option maxHeartbeats 4000000 in
theorem rn0_readSymbol : ∀ (a : List am_V) (w : List am_C), pr0_readSymbol a w → ∃ nq, am_ev (am_mk kb0_readSymbol (fm0_readSymbol a w).2.2.1 (fm0_readSymbol a w).2.2.2 w.length) [82] nq (0, am_L0 a 3, [], w, 0, 0) = some ((fm0_readSymbol a w).1, (fm0_readSymbol a w).2.1) := by
  rintro a w ⟨y, x, c, p0, rfl, rfl, hp⟩
  rw [fe0_readSymbol y x c p0]
  exact am_lf_ev (re0_readSymbol y x c p0 hp)
theorem rl0_readSymbol : ∀ (a : List am_V) (w : List am_C), pr0_readSymbol a w → a.length ≤ 3 := by
  rintro a w ⟨y, x, c, p0, rfl, rfl, hp⟩
  exact Nat.le_of_ble_eq_true rfl
theorem pa0_readSymbol : ∀ a w, pr0_readSymbol a w → ∃ q a' ci fs r, a = .inr (.inl q) :: a' ∧ w[q]? = some (.inr (ci, fs)) ∧ hn_cl[ci]? = some r ∧ r.1 = hn_R0 := by
  rintro a w ⟨y, x, c, p0, rfl, rfl, hp⟩
  exact ⟨0, _, 0, _, _, rfl, rfl, rfl, rfl⟩
set_option maxRecDepth 100000 in
set_option maxHeartbeats 4000000 in
theorem km0_readSymbol {l : Launch} {E : (Nat → Prop) → State → Prop} {D : va_G} {ou : Nat → Nat} {ca : Nat → ClassId} (hE : hg_E E ou) : hg_Met l E D ou ca hy0_readSymbol prog_2_method_4_code 3 (some .int) 3 pr0_readSymbol fm0_readSymbol := by
  refine am_met (B := kb0_readSymbol) (cuts := [82]) (nt := 5) (by decide +kernel) rfl rfl (hg_tys_ok ca) ?_ (by decide) rl0_readSymbol ?_ rn0_readSymbol
  · exact fun t ht => List.mem_cons_of_mem _ (hg_arr t ht)
  · intro a w hp ad p e R s m args below meth c hR X hEs hnm
    have hR1 : 3 ≤ R.frames ∧ 120 ≤ R.locals := by rw [hR]; exact ⟨Nat.le_refl _, Nat.le_refl _⟩
    have hN := hE.2.1 _ _ hEs
    refine ⟨kd0_readSymbol_ok, fun index ci fi mode hq => kf0_ok X.2.2.2.2.1 hN.1 (index, ci, fi, mode) (am_as_mem hq), fun index ci fs hq => (am_no hq).elim, fun x v hq => (am_no hq).elim, ?_, fun o t n f hq => (am_no hq).elim, rfl, rfl, by rw [hR]; exact Nat.le_refl _, by rw [hR]; exact Nat.le_refl _⟩
    intro pc sel n0 pre0 f0 hq
    have hz : ∀ q ∈ ki0_readSymbol, am_CK p l e R s m args below meth c D hn_cl (va_A (am_w ad ou ca w) s.heap.size) ou ca 3 q.1 q.2.2.1 q.2.2.2.1 q.2.2.2.2 := by
      refine am_allc (am_ck_V (n := 1) X hEs hE.1 (km5_kind hE) (hg_good (gw_mem 338 (by decide +kernel))) rfl (List.mem_cons_of_mem _ (gw_mem 73 (by decide +kernel))) (List.mem_cons_of_mem _ (gw_mem 335 (by decide +kernel))) (List.mem_cons_of_mem _ (gw_mem 336 (by decide +kernel))) (List.mem_cons_of_mem _ (gw_mem 337 (by decide +kernel))) pa5_kind (by decide +kernel) ⟨Nat.le_trans (by decide) hR1.1, Nat.le_trans (by decide) hR1.2⟩ (kd0_readSymbol_ok (5, .invokevirtual 59, 3) (List.mem_of_getElem? (i := 3) rfl))) (am_allc (am_ck_V (n := 1) X hEs hE.1 (km0_readHole hE) (hg_good (gw_mem 521 (by decide +kernel))) rfl (List.mem_cons_of_mem _ (gw_mem 72 (by decide +kernel))) (List.mem_cons_of_mem _ (gw_mem 518 (by decide +kernel))) (List.mem_cons_of_mem _ (gw_mem 520 (by decide +kernel))) (List.mem_cons_of_mem _ (gw_mem 4 (by decide +kernel))) pa0_readHole (by decide +kernel) ⟨Nat.le_trans (by decide) hR1.1, Nat.le_trans (by decide) hR1.2⟩ (kd0_readSymbol_ok (46, .invokevirtual 88, 3) (List.mem_of_getElem? (i := 7) rfl))) (am_allc (am_ck_V (n := 1) X hEs hE.1 (km0_open hE) (hg_good (gw_mem 537 (by decide +kernel))) rfl (List.mem_cons_of_mem _ (gw_mem 72 (by decide +kernel))) (List.mem_cons_of_mem _ (gw_mem 534 (by decide +kernel))) (List.mem_cons_of_mem _ (gw_mem 536 (by decide +kernel))) (List.mem_cons_of_mem _ (gw_mem 6 (by decide +kernel))) pa0_open (by decide +kernel) ⟨Nat.le_trans (by decide) hR1.1, Nat.le_trans (by decide) hR1.2⟩ (kd0_readSymbol_ok (55, .invokevirtual 92, 3) (List.mem_of_getElem? (i := 12) rfl))) (am_allc (am_ck_V (n := 1) X hEs hE.1 (km0_turn hE) (hg_good (gw_mem 545 (by decide +kernel))) rfl (List.mem_cons_of_mem _ (gw_mem 72 (by decide +kernel))) (List.mem_cons_of_mem _ (gw_mem 542 (by decide +kernel))) (List.mem_cons_of_mem _ (gw_mem 544 (by decide +kernel))) (List.mem_cons_of_mem _ (gw_mem 7 (by decide +kernel))) pa0_turn (by decide +kernel) ⟨Nat.le_trans (by decide) hR1.1, Nat.le_trans (by decide) hR1.2⟩ (kd0_readSymbol_ok (64, .invokevirtual 95, 3) (List.mem_of_getElem? (i := 17) rfl))) (am_allc (am_ck_V (n := 1) X hEs hE.1 (km0_close hE) (hg_good (gw_mem 557 (by decide +kernel))) rfl (List.mem_cons_of_mem _ (gw_mem 72 (by decide +kernel))) (List.mem_cons_of_mem _ (gw_mem 554 (by decide +kernel))) (List.mem_cons_of_mem _ (gw_mem 556 (by decide +kernel))) (List.mem_cons_of_mem _ (gw_mem 8 (by decide +kernel))) pa0_close (by decide +kernel) ⟨Nat.le_trans (by decide) hR1.1, Nat.le_trans (by decide) hR1.2⟩ (kd0_readSymbol_ok (73, .invokevirtual 98, 3) (List.mem_of_getElem? (i := 22) rfl))) (am_all0)))))
    exact hz _ (am_as_mem hq)
noncomputable def ki0_reads : List (Nat × Option (List Nat) × Nat × (List am_V → List am_C → Prop) × am_M) := [(5, some [5, 6, 7, 8, 9, 10, 11, 12, 14, 15], 2, pr5_cut, fm5_cut), (13, some [13], 2, pr1_enter, fm1_enter), (50, some [5, 6, 7, 8, 9, 10, 11, 12], 2, pr5_kind, fm5_kind), (66, some [5, 6, 7, 8, 9, 10, 11, 12, 13], 3, pr3_read, fm3_read), (74, some [0, 1, 2, 3, 4, 5, 6, 7, 8, 9, 10, 11, 12, 13], 2, pr0_readSymbol, fm0_readSymbol), (81, some [], 2, prJ_max, fmJ_max), (136, some [5, 6, 7, 8, 9, 10, 11, 12], 2, pr5_place, fm5_place)]
noncomputable def kb0_reads : am_B := (kd0_reads, am_as kf0, hn_ty, fun _ => none, fun _ => none, am_as ki0_reads, fun _ => none, 5, 4, (some .boolean))
noncomputable def fn0_reads_c139 (y : qt0) (x : qt5) (c : qt1) (t : qt6) (u0 : Int32) : Int32 × qt0 × qt5 × qt1 := ((qg0_compiled (qu0_faultPlace y u0)), (qu0_faultPlace y u0), x, c)
def wp0_reads_c139 (y : qt0) (x : qt5) (c : qt1) (t : qt6) (u0 : Int32) : Prop := (am_fit .boolean (.inl (qg0_compiled (qu0_faultPlace y u0))) = true)
set_option maxRecDepth 100000 in
set_option maxHeartbeats 4000000 in
theorem rc0_reads_139 (y : qt0) (x : qt5) (c : qt1) (t : qt6) (u0 : Int32) (j2 : Option am_V) (j3 : Option am_V) (g2 : am_loO 16 j2 = true) (g3 : am_loO 16 j3 = true) (hp : wp0_reads_c139 y x c t u0) : am_lf (am_mk kb0_reads 0 0 16) [8, 16, 21, 26, 30, 89, 115, 116, 119, 139] (139, [some (.inr (.inl 0)), some (.inr (.inl 14)), j2, j3], [.inl u0, .inr (.inl 0)], (kw_PT y x c t), 0, 0) = some (some (.inl ((fn0_reads_c139 y x c t u0).1)), (kw_PT ((fn0_reads_c139 y x c t u0).2.1) ((fn0_reads_c139 y x c t u0).2.2.1) ((fn0_reads_c139 y x c t u0).2.2.2) t)) := by
  unfold wp0_reads_c139 at hp
  refine am_lf_eq ?_
  generalize am_lf (am_mk kb0_reads 0 0 16) [8, 16, 21, 26, 30, 89, 115, 116, 119, 139] = kt
  refine am_sp (w' := (kw_PT (qu0_faultPlace y u0) x c t)) (kp_PT_0_faultPlace y x c t u0) ?_
  refine am_ci (c := am_fit .boolean (.inl (qg0_compiled (qu0_faultPlace y u0))) = true) hp ?_
  have e : fn0_reads_c139 y x c t u0 = ((qg0_compiled (qu0_faultPlace y u0)), (qu0_faultPlace y u0), x, c) := by
    rw [fn0_reads_c139]
  rw [e] <;> rfl
noncomputable def fn0_reads_c119 (y : qt0) (x : qt5) (c : qt1) (t : qt6) (v2 : Int32) : Int32 × qt0 × qt5 × qt1 := (if (qg0_compiled y) = 0 then (fn0_reads_c139 y x c t (fn5_place x v2)) else (fn0_reads_c139 y x c t (-1 : Int32)))
def wp0_reads_c119 (y : qt0) (x : qt5) (c : qt1) (t : qt6) (v2 : Int32) : Prop := (((qg0_compiled y) = 0 → ((wp5_place x v2) ∧ (wp0_reads_c139 y x c t (fn5_place x v2)))) ∧ (¬ (qg0_compiled y) = 0 → (wp0_reads_c139 y x c t (-1 : Int32))))
set_option maxRecDepth 100000 in
set_option maxHeartbeats 4000000 in
theorem rc0_reads_119 (y : qt0) (x : qt5) (c : qt1) (t : qt6) (v2 : Int32) (j3 : Option am_V) (g3 : am_loO 16 j3 = true) (hp : wp0_reads_c119 y x c t v2) : am_lf (am_mk kb0_reads 0 0 16) [8, 16, 21, 26, 30, 89, 115, 116, 119, 139] (119, [some (.inr (.inl 0)), some (.inr (.inl 14)), some (.inl v2), j3], [], (kw_PT y x c t), 0, 0) = some (some (.inl ((fn0_reads_c119 y x c t v2).1)), (kw_PT ((fn0_reads_c119 y x c t v2).2.1) ((fn0_reads_c119 y x c t v2).2.2.1) ((fn0_reads_c119 y x c t v2).2.2.2) t)) := by
  unfold wp0_reads_c119 at hp
  have i139 := @rc0_reads_139
  refine am_lf_eq ?_
  generalize am_lf (am_mk kb0_reads 0 0 16) [8, 16, 21, 26, 30, 89, 115, 116, 119, 139] = kt at i139 ⊢
  refine am_if (c := (qg0_compiled y) = 0) (fun h1 => ?_) (fun h1 => ?_)
  · have q1 := hp.1 h1
    refine am_cy (pre := pr5_place) (f := fm5_place) (a' := [.inr (.inl 0), .inl v2]) (wc := (kw_S x)) (w' := (kw_PT y x c t)) (r := (some (.inl (fn5_place x v2)), (kw_S x), 0, 0)) ?_ ?_ ?_ ?_ ?_ ?_ ?_ ?_ ?_ ?_
    · exact ks_PT_S_1_o y x c t
    · rfl
    · rfl
    · exact ks_PT_S_1_s y x c t
    · exact ⟨x, v2, rfl, rfl, q1.1⟩
    · exact fe5_place x v2
    · exact kwl_S x
    · rfl
    · exact ks_PT_S_1_m y x c t x
    have e : fn0_reads_c119 y x c t v2 = fn0_reads_c139 y x c t (fn5_place x v2) := by
      rw [fn0_reads_c119]
      rw [if_pos h1]
    rw [e]
    exact i139 y x c t (fn5_place x v2) _ _ rfl g3 q1.2
  · have q1 := hp.2 h1
    have e : fn0_reads_c119 y x c t v2 = fn0_reads_c139 y x c t (-1 : Int32) := by
      rw [fn0_reads_c119]
      rw [if_neg h1]
    rw [e]
    exact i139 y x c t (-1 : Int32) _ _ rfl g3 q1
noncomputable def fn0_reads_c116 (y : qt0) (x : qt5) (c : qt1) (t : qt6) (v2 : Int32) (u0 : Int32) : Int32 × qt0 × qt5 × qt1 := (fn0_reads_c119 (qu0_compiled y u0) x c t v2)
def wp0_reads_c116 (y : qt0) (x : qt5) (c : qt1) (t : qt6) (v2 : Int32) (u0 : Int32) : Prop := (am_fit .boolean (.inl u0) = true ∧ (wp0_reads_c119 (qu0_compiled y u0) x c t v2))
set_option maxRecDepth 100000 in
set_option maxHeartbeats 4000000 in
theorem rc0_reads_116 (y : qt0) (x : qt5) (c : qt1) (t : qt6) (v2 : Int32) (u0 : Int32) (j3 : Option am_V) (g3 : am_loO 16 j3 = true) (hp : wp0_reads_c116 y x c t v2 u0) : am_lf (am_mk kb0_reads 0 0 16) [8, 16, 21, 26, 30, 89, 115, 116, 119, 139] (116, [some (.inr (.inl 0)), some (.inr (.inl 14)), some (.inl v2), j3], [.inl u0, .inr (.inl 0)], (kw_PT y x c t), 0, 0) = some (some (.inl ((fn0_reads_c116 y x c t v2 u0).1)), (kw_PT ((fn0_reads_c116 y x c t v2 u0).2.1) ((fn0_reads_c116 y x c t v2 u0).2.2.1) ((fn0_reads_c116 y x c t v2 u0).2.2.2) t)) := by
  unfold wp0_reads_c116 at hp
  have i119 := @rc0_reads_119
  refine am_lf_eq ?_
  generalize am_lf (am_mk kb0_reads 0 0 16) [8, 16, 21, 26, 30, 89, 115, 116, 119, 139] = kt at i119 ⊢
  refine am_ci (c := am_fit .boolean (.inl u0) = true) hp.1 ?_
  refine am_sp (w' := (kw_PT (qu0_compiled y u0) x c t)) (kp_PT_0_compiled y x c t u0) ?_
  have e : fn0_reads_c116 y x c t v2 u0 = fn0_reads_c119 (qu0_compiled y u0) x c t v2 := by
    rw [fn0_reads_c116]
  rw [e]
  exact i119 (qu0_compiled y u0) x c t v2 _ g3 hp.2
noncomputable def fn0_reads_c115 (y : qt0) (x : qt5) (c : qt1) (t : qt6) (v2 : Int32) : Int32 × qt0 × qt5 × qt1 := (fn0_reads_c116 y x c t v2 (0 : Int32))
def wp0_reads_c115 (y : qt0) (x : qt5) (c : qt1) (t : qt6) (v2 : Int32) : Prop := (wp0_reads_c116 y x c t v2 (0 : Int32))
set_option maxRecDepth 100000 in
set_option maxHeartbeats 4000000 in
theorem rc0_reads_115 (y : qt0) (x : qt5) (c : qt1) (t : qt6) (v2 : Int32) (j3 : Option am_V) (g3 : am_loO 16 j3 = true) (hp : wp0_reads_c115 y x c t v2) : am_lf (am_mk kb0_reads 0 0 16) [8, 16, 21, 26, 30, 89, 115, 116, 119, 139] (115, [some (.inr (.inl 0)), some (.inr (.inl 14)), some (.inl v2), j3], [.inr (.inl 0)], (kw_PT y x c t), 0, 0) = some (some (.inl ((fn0_reads_c115 y x c t v2).1)), (kw_PT ((fn0_reads_c115 y x c t v2).2.1) ((fn0_reads_c115 y x c t v2).2.2.1) ((fn0_reads_c115 y x c t v2).2.2.2) t)) := by
  unfold wp0_reads_c115 at hp
  have i116 := @rc0_reads_116
  refine am_lf_eq ?_
  generalize am_lf (am_mk kb0_reads 0 0 16) [8, 16, 21, 26, 30, 89, 115, 116, 119, 139] = kt at i116 ⊢
  have e : fn0_reads_c115 y x c t v2 = fn0_reads_c116 y x c t v2 (0 : Int32) := by
    rw [fn0_reads_c115]
  rw [e]
  exact i116 y x c t v2 (0 : Int32) _ g3 hp
noncomputable def fn0_reads_c89 (y : qt0) (x : qt5) (c : qt1) (t : qt6) (v2 : Int32) (v3 : Int32) : Int32 × qt0 × qt5 × qt1 := (if v3 ≤ 0 then (fn0_reads_c115 y x c t v2) else (if (qg0_openCount y) = 0 then (if (qg1_name c) = 0 then (fn0_reads_c116 y x c t v2 (1 : Int32)) else (fn0_reads_c115 y x c t v2)) else (fn0_reads_c115 y x c t v2)))
def wp0_reads_c89 (y : qt0) (x : qt5) (c : qt1) (t : qt6) (v2 : Int32) (v3 : Int32) : Prop := ((v3 ≤ 0 → (wp0_reads_c115 y x c t v2)) ∧ (¬ v3 ≤ 0 → (((qg0_openCount y) = 0 → (((qg1_name c) = 0 → (wp0_reads_c116 y x c t v2 (1 : Int32))) ∧ (¬ (qg1_name c) = 0 → (wp0_reads_c115 y x c t v2)))) ∧ (¬ (qg0_openCount y) = 0 → (wp0_reads_c115 y x c t v2)))))
set_option maxRecDepth 100000 in
set_option maxHeartbeats 4000000 in
theorem rc0_reads_89 (y : qt0) (x : qt5) (c : qt1) (t : qt6) (v2 : Int32) (v3 : Int32) (hp : wp0_reads_c89 y x c t v2 v3) : am_lf (am_mk kb0_reads 0 0 16) [8, 16, 21, 26, 30, 89, 115, 116, 119, 139] (89, [some (.inr (.inl 0)), some (.inr (.inl 14)), some (.inl v2), some (.inl v3)], [], (kw_PT y x c t), 0, 0) = some (some (.inl ((fn0_reads_c89 y x c t v2 v3).1)), (kw_PT ((fn0_reads_c89 y x c t v2 v3).2.1) ((fn0_reads_c89 y x c t v2 v3).2.2.1) ((fn0_reads_c89 y x c t v2 v3).2.2.2) t)) := by
  unfold wp0_reads_c89 at hp
  have i115 := @rc0_reads_115
  have i116 := @rc0_reads_116
  refine am_lf_eq ?_
  generalize am_lf (am_mk kb0_reads 0 0 16) [8, 16, 21, 26, 30, 89, 115, 116, 119, 139] = kt at i115 i116 ⊢
  refine am_if (c := v3 ≤ 0) (fun h1 => ?_) (fun h1 => ?_)
  · have q1 := hp.1 h1
    have e : fn0_reads_c89 y x c t v2 v3 = fn0_reads_c115 y x c t v2 := by
      rw [fn0_reads_c89]
      rw [if_pos h1]
    rw [e]
    exact i115 y x c t v2 _ rfl q1
  · have q1 := hp.2 h1
    refine am_if (c := (qg0_openCount y) = 0) (fun h2 => ?_) (fun h2 => ?_)
    · have q2 := q1.1 h2
      refine am_if (c := (qg1_name c) = 0) (fun h3 => ?_) (fun h3 => ?_)
      · have q3 := q2.1 h3
        have e : fn0_reads_c89 y x c t v2 v3 = fn0_reads_c116 y x c t v2 (1 : Int32) := by
          rw [fn0_reads_c89]
          rw [if_neg h1, if_pos h2, if_pos h3]
        rw [e]
        exact i116 y x c t v2 (1 : Int32) _ rfl q3
      · have q3 := q2.2 h3
        have e : fn0_reads_c89 y x c t v2 v3 = fn0_reads_c115 y x c t v2 := by
          rw [fn0_reads_c89]
          rw [if_neg h1, if_pos h2, if_neg h3]
        rw [e]
        exact i115 y x c t v2 _ rfl q3
    · have q2 := q1.2 h2
      have e : fn0_reads_c89 y x c t v2 v3 = fn0_reads_c115 y x c t v2 := by
        rw [fn0_reads_c89]
        rw [if_neg h1, if_neg h2]
      rw [e]
      exact i115 y x c t v2 _ rfl q2
noncomputable def fn0_reads_c30 : Nat → qt0 → qt5 → qt1 → qt6 → Int32 → Int32 → Int32 × qt0 × qt5 × qt1
  | 0, y, x, c, _, _, _ => (0, y, x, c)
  | fu + 1, y, x, c, t, v2, v3 => (if (qg5_count x) ≤ v2 then (fn0_reads_c89 y x c t v2 v3) else (if v3 ≤ 0 then (fn0_reads_c89 y x c t v2 v3) else (if (fn5_kind x v2) = (1 : Int32) then (fn0_reads_c30 fu y x ((fn3_read x c v2).2) t (v2 + (fnJ_max ((fn3_read x c v2).1) (0 : Int32))) ((fn3_read x c v2).1)) else (fn0_reads_c30 fu ((fn0_readSymbol y x c v2).2.1) ((fn0_readSymbol y x c v2).2.2.1) ((fn0_readSymbol y x c v2).2.2.2) t (v2 + (fnJ_max ((fn0_readSymbol y x c v2).1) (0 : Int32))) ((fn0_readSymbol y x c v2).1)))))
def wp0_reads_c30 : Nat → qt0 → qt5 → qt1 → qt6 → Int32 → Int32 → Prop
  | 0, _, _, _, _, _, _ => False
  | fu + 1, y, x, c, t, v2, v3 => (((qg5_count x) ≤ v2 → (wp0_reads_c89 y x c t v2 v3)) ∧ (¬ (qg5_count x) ≤ v2 → ((v3 ≤ 0 → (wp0_reads_c89 y x c t v2 v3)) ∧ (¬ v3 ≤ 0 → ((wp5_kind x v2) ∧ (((fn5_kind x v2) = (1 : Int32) → ((wp3_read x c v2) ∧ ((wpJ_max ((fn3_read x c v2).1) (0 : Int32)) ∧ (wp0_reads_c30 fu y x ((fn3_read x c v2).2) t (v2 + (fnJ_max ((fn3_read x c v2).1) (0 : Int32))) ((fn3_read x c v2).1))))) ∧ (¬ (fn5_kind x v2) = (1 : Int32) → ((wp0_readSymbol y x c v2) ∧ ((wpJ_max ((fn0_readSymbol y x c v2).1) (0 : Int32)) ∧ (wp0_reads_c30 fu ((fn0_readSymbol y x c v2).2.1) ((fn0_readSymbol y x c v2).2.2.1) ((fn0_readSymbol y x c v2).2.2.2) t (v2 + (fnJ_max ((fn0_readSymbol y x c v2).1) (0 : Int32))) ((fn0_readSymbol y x c v2).1)))))))))))
set_option maxRecDepth 100000 in
set_option maxHeartbeats 4000000 in
theorem rc0_reads_30 : ∀ (fu : Nat) (y : qt0) (x : qt5) (c : qt1) (t : qt6) (v2 : Int32) (v3 : Int32) , wp0_reads_c30 fu y x c t v2 v3 → am_lf (am_mk kb0_reads 0 0 16) [8, 16, 21, 26, 30, 89, 115, 116, 119, 139] (30, [some (.inr (.inl 0)), some (.inr (.inl 14)), some (.inl v2), some (.inl v3)], [], (kw_PT y x c t), 0, 0) = some (some (.inl ((fn0_reads_c30 fu y x c t v2 v3).1)), (kw_PT ((fn0_reads_c30 fu y x c t v2 v3).2.1) ((fn0_reads_c30 fu y x c t v2 v3).2.2.1) ((fn0_reads_c30 fu y x c t v2 v3).2.2.2) t)) := by
  intro fu
  induction fu with
  | zero =>
    intro y x c t v2 v3 hp
    exact hp.elim
  | succ fu ih =>
    intro y x c t v2 v3 hp
    unfold wp0_reads_c30 at hp
    have i89 := @rc0_reads_89
    refine am_lf_eq ?_
    generalize am_lf (am_mk kb0_reads 0 0 16) [8, 16, 21, 26, 30, 89, 115, 116, 119, 139] = kt at i89 ih ⊢
    refine am_if (c := (qg5_count x) ≤ v2) (fun h2 => ?_) (fun h2 => ?_)
    · have q2 := hp.1 h2
      have e : fn0_reads_c30 (fu + 1) y x c t v2 v3 = fn0_reads_c89 y x c t v2 v3 := by
        rw [fn0_reads_c30]
        rw [if_pos h2]
      rw [e]
      exact i89 y x c t v2 v3  q2
    · have q2 := hp.2 h2
      refine am_if (c := v3 ≤ 0) (fun h3 => ?_) (fun h3 => ?_)
      · have q3 := q2.1 h3
        have e : fn0_reads_c30 (fu + 1) y x c t v2 v3 = fn0_reads_c89 y x c t v2 v3 := by
          rw [fn0_reads_c30]
          rw [if_neg h2, if_pos h3]
        rw [e]
        exact i89 y x c t v2 v3  q3
      · have q3 := q2.2 h3
        refine am_cy (pre := pr5_kind) (f := fm5_kind) (a' := [.inr (.inl 0), .inl v2]) (wc := (kw_S x)) (w' := (kw_PT y x c t)) (r := (some (.inl (fn5_kind x v2)), (kw_S x), 0, 0)) ?_ ?_ ?_ ?_ ?_ ?_ ?_ ?_ ?_ ?_
        · exact ks_PT_S_1_o y x c t
        · rfl
        · rfl
        · exact ks_PT_S_1_s y x c t
        · exact ⟨x, v2, rfl, rfl, q3.1⟩
        · exact fe5_kind x v2
        · exact kwl_S x
        · rfl
        · exact ks_PT_S_1_m y x c t x
        refine am_if (c := (fn5_kind x v2) = (1 : Int32)) (fun h4 => ?_) (fun h4 => ?_)
        · have q4 := q3.2.1 h4
          refine am_cy (pre := pr3_read) (f := fm3_read) (a' := [.inr (.inl 0), .inl v2, .inr (.inl 8)]) (wc := (kw_SC x c)) (w' := (kw_PT y x ((fn3_read x c v2).2) t)) (r := (some (.inl ((fn3_read x c v2).1)), (kw_SC x ((fn3_read x c v2).2)), 0, 0)) ?_ ?_ ?_ ?_ ?_ ?_ ?_ ?_ ?_ ?_
          · exact ks_PT_SC_1_2_o y x c t
          · rfl
          · rfl
          · exact ks_PT_SC_1_2_s y x c t
          · exact ⟨x, c, v2, rfl, rfl, q4.1⟩
          · exact fe3_read x c v2
          · exact kwl_SC x ((fn3_read x c v2).2)
          · rfl
          · exact ks_PT_SC_1_2_m y x c t x ((fn3_read x c v2).2)
          refine am_cy (pre := prJ_max) (f := fmJ_max) (a' := [.inl ((fn3_read x c v2).1), .inl (0 : Int32)]) (wc := []) (w' := (kw_PT y x ((fn3_read x c v2).2) t)) (r := (some (.inl (fnJ_max ((fn3_read x c v2).1) (0 : Int32))), [], 0, 0)) ?_ ?_ ?_ ?_ ?_ ?_ ?_ ?_ ?_ ?_
          · exact am_sow0 _
          · rfl
          · rfl
          · exact am_sub0 _
          · exact ⟨(fn3_read x c v2).1, (0 : Int32), rfl, rfl, q4.2.1⟩
          · exact feJ_max ((fn3_read x c v2).1) (0 : Int32)
          · exact rfl
          · rfl
          · exact am_mix0 _
          have e : fn0_reads_c30 (fu + 1) y x c t v2 v3 = fn0_reads_c30 fu y x ((fn3_read x c v2).2) t (v2 + (fnJ_max ((fn3_read x c v2).1) (0 : Int32))) ((fn3_read x c v2).1) := by
            rw [fn0_reads_c30]
            rw [if_neg h2, if_neg h3, if_pos h4]
          rw [e]
          exact ih y x ((fn3_read x c v2).2) t (v2 + (fnJ_max ((fn3_read x c v2).1) (0 : Int32))) ((fn3_read x c v2).1)  q4.2.2
        · have q4 := q3.2.2 h4
          refine am_cy (pre := pr0_readSymbol) (f := fm0_readSymbol) (a' := [.inr (.inl 0), .inl v2]) (wc := (kw_P y x c)) (w' := (kw_PT ((fn0_readSymbol y x c v2).2.1) ((fn0_readSymbol y x c v2).2.2.1) ((fn0_readSymbol y x c v2).2.2.2) t)) (r := (some (.inl ((fn0_readSymbol y x c v2).1)), (kw_P ((fn0_readSymbol y x c v2).2.1) ((fn0_readSymbol y x c v2).2.2.1) ((fn0_readSymbol y x c v2).2.2.2)), 0, 0)) ?_ ?_ ?_ ?_ ?_ ?_ ?_ ?_ ?_ ?_
          · exact ks_PT_P_0_1_2_o y x c t
          · rfl
          · rfl
          · exact ks_PT_P_0_1_2_s y x c t
          · exact ⟨y, x, c, v2, rfl, rfl, q4.1⟩
          · exact fe0_readSymbol y x c v2
          · exact kwl_P ((fn0_readSymbol y x c v2).2.1) ((fn0_readSymbol y x c v2).2.2.1) ((fn0_readSymbol y x c v2).2.2.2)
          · rfl
          · exact ks_PT_P_0_1_2_m y x c t ((fn0_readSymbol y x c v2).2.1) ((fn0_readSymbol y x c v2).2.2.1) ((fn0_readSymbol y x c v2).2.2.2)
          refine am_cy (pre := prJ_max) (f := fmJ_max) (a' := [.inl ((fn0_readSymbol y x c v2).1), .inl (0 : Int32)]) (wc := []) (w' := (kw_PT ((fn0_readSymbol y x c v2).2.1) ((fn0_readSymbol y x c v2).2.2.1) ((fn0_readSymbol y x c v2).2.2.2) t)) (r := (some (.inl (fnJ_max ((fn0_readSymbol y x c v2).1) (0 : Int32))), [], 0, 0)) ?_ ?_ ?_ ?_ ?_ ?_ ?_ ?_ ?_ ?_
          · exact am_sow0 _
          · rfl
          · rfl
          · exact am_sub0 _
          · exact ⟨(fn0_readSymbol y x c v2).1, (0 : Int32), rfl, rfl, q4.2.1⟩
          · exact feJ_max ((fn0_readSymbol y x c v2).1) (0 : Int32)
          · exact rfl
          · rfl
          · exact am_mix0 _
          have e : fn0_reads_c30 (fu + 1) y x c t v2 v3 = fn0_reads_c30 fu ((fn0_readSymbol y x c v2).2.1) ((fn0_readSymbol y x c v2).2.2.1) ((fn0_readSymbol y x c v2).2.2.2) t (v2 + (fnJ_max ((fn0_readSymbol y x c v2).1) (0 : Int32))) ((fn0_readSymbol y x c v2).1) := by
            rw [fn0_reads_c30]
            rw [if_neg h2, if_neg h3, if_neg h4]
          rw [e]
          exact ih ((fn0_readSymbol y x c v2).2.1) ((fn0_readSymbol y x c v2).2.2.1) ((fn0_readSymbol y x c v2).2.2.2) t (v2 + (fnJ_max ((fn0_readSymbol y x c v2).1) (0 : Int32))) ((fn0_readSymbol y x c v2).1)  q4.2.2
noncomputable def fn0_reads_c26 (y : qt0) (x : qt5) (c : qt1) (t : qt6) : Int32 × qt0 × qt5 × qt1 := (fn0_reads_c30 hg_fu y x c t (0 : Int32) (1 : Int32))
def wp0_reads_c26 (y : qt0) (x : qt5) (c : qt1) (t : qt6) : Prop := (wp0_reads_c30 hg_fu y x c t (0 : Int32) (1 : Int32))
set_option maxRecDepth 100000 in
set_option maxHeartbeats 4000000 in
theorem rc0_reads_26 (y : qt0) (x : qt5) (c : qt1) (t : qt6) (j2 : Option am_V) (j3 : Option am_V) (g2 : am_loO 16 j2 = true) (g3 : am_loO 16 j3 = true) (hp : wp0_reads_c26 y x c t) : am_lf (am_mk kb0_reads 0 0 16) [8, 16, 21, 26, 30, 89, 115, 116, 119, 139] (26, [some (.inr (.inl 0)), some (.inr (.inl 14)), j2, j3], [], (kw_PT y x c t), 0, 0) = some (some (.inl ((fn0_reads_c26 y x c t).1)), (kw_PT ((fn0_reads_c26 y x c t).2.1) ((fn0_reads_c26 y x c t).2.2.1) ((fn0_reads_c26 y x c t).2.2.2) t)) := by
  unfold wp0_reads_c26 at hp
  have i30 := @rc0_reads_30
  refine am_lf_eq ?_
  generalize am_lf (am_mk kb0_reads 0 0 16) [8, 16, 21, 26, 30, 89, 115, 116, 119, 139] = kt at i30 ⊢
  have e : fn0_reads_c26 y x c t = fn0_reads_c30 hg_fu y x c t (0 : Int32) (1 : Int32) := by
    rw [fn0_reads_c26]
  rw [e]
  exact i30 hg_fu y x c t (0 : Int32) (1 : Int32)  hp
noncomputable def fn0_reads_c21 (y : qt0) (x : qt5) (c : qt1) (t : qt6) : Int32 × qt0 × qt5 × qt1 := (fn0_reads_c26 (qu0_holeCount y (0 : Int32)) x c t)
def wp0_reads_c21 (y : qt0) (x : qt5) (c : qt1) (t : qt6) : Prop := (wp0_reads_c26 (qu0_holeCount y (0 : Int32)) x c t)
set_option maxRecDepth 100000 in
set_option maxHeartbeats 4000000 in
theorem rc0_reads_21 (y : qt0) (x : qt5) (c : qt1) (t : qt6) (j2 : Option am_V) (j3 : Option am_V) (g2 : am_loO 16 j2 = true) (g3 : am_loO 16 j3 = true) (hp : wp0_reads_c21 y x c t) : am_lf (am_mk kb0_reads 0 0 16) [8, 16, 21, 26, 30, 89, 115, 116, 119, 139] (21, [some (.inr (.inl 0)), some (.inr (.inl 14)), j2, j3], [], (kw_PT y x c t), 0, 0) = some (some (.inl ((fn0_reads_c21 y x c t).1)), (kw_PT ((fn0_reads_c21 y x c t).2.1) ((fn0_reads_c21 y x c t).2.2.1) ((fn0_reads_c21 y x c t).2.2.2) t)) := by
  unfold wp0_reads_c21 at hp
  have i26 := @rc0_reads_26
  refine am_lf_eq ?_
  generalize am_lf (am_mk kb0_reads 0 0 16) [8, 16, 21, 26, 30, 89, 115, 116, 119, 139] = kt at i26 ⊢
  refine am_sp (w' := (kw_PT (qu0_holeCount y (0 : Int32)) x c t)) (kp_PT_0_holeCount y x c t (0 : Int32)) ?_
  have e : fn0_reads_c21 y x c t = fn0_reads_c26 (qu0_holeCount y (0 : Int32)) x c t := by
    rw [fn0_reads_c21]
  rw [e]
  exact i26 (qu0_holeCount y (0 : Int32)) x c t _ _ g2 g3 hp
noncomputable def fn0_reads_c16 (y : qt0) (x : qt5) (c : qt1) (t : qt6) : Int32 × qt0 × qt5 × qt1 := (fn0_reads_c21 (qu0_openCount y (0 : Int32)) x c t)
def wp0_reads_c16 (y : qt0) (x : qt5) (c : qt1) (t : qt6) : Prop := (wp0_reads_c21 (qu0_openCount y (0 : Int32)) x c t)
set_option maxRecDepth 100000 in
set_option maxHeartbeats 4000000 in
theorem rc0_reads_16 (y : qt0) (x : qt5) (c : qt1) (t : qt6) (j2 : Option am_V) (j3 : Option am_V) (g2 : am_loO 16 j2 = true) (g3 : am_loO 16 j3 = true) (hp : wp0_reads_c16 y x c t) : am_lf (am_mk kb0_reads 0 0 16) [8, 16, 21, 26, 30, 89, 115, 116, 119, 139] (16, [some (.inr (.inl 0)), some (.inr (.inl 14)), j2, j3], [], (kw_PT y x c t), 0, 0) = some (some (.inl ((fn0_reads_c16 y x c t).1)), (kw_PT ((fn0_reads_c16 y x c t).2.1) ((fn0_reads_c16 y x c t).2.2.1) ((fn0_reads_c16 y x c t).2.2.2) t)) := by
  unfold wp0_reads_c16 at hp
  have i21 := @rc0_reads_21
  refine am_lf_eq ?_
  generalize am_lf (am_mk kb0_reads 0 0 16) [8, 16, 21, 26, 30, 89, 115, 116, 119, 139] = kt at i21 ⊢
  refine am_sp (w' := (kw_PT (qu0_openCount y (0 : Int32)) x c t)) (kp_PT_0_openCount y x c t (0 : Int32)) ?_
  have e : fn0_reads_c16 y x c t = fn0_reads_c21 (qu0_openCount y (0 : Int32)) x c t := by
    rw [fn0_reads_c16]
  rw [e]
  exact i21 (qu0_openCount y (0 : Int32)) x c t _ _ g2 g3 hp
noncomputable def fn0_reads_c8 (y : qt0) (x : qt5) (c : qt1) (t : qt6) : Int32 × qt0 × qt5 × qt1 := (fn0_reads_c16 y x (fn1_enter c (0 : Int32)) t)
def wp0_reads_c8 (y : qt0) (x : qt5) (c : qt1) (t : qt6) : Prop := ((wp1_enter c (0 : Int32)) ∧ (wp0_reads_c16 y x (fn1_enter c (0 : Int32)) t))
set_option maxRecDepth 100000 in
set_option maxHeartbeats 4000000 in
theorem rc0_reads_8 (y : qt0) (x : qt5) (c : qt1) (t : qt6) (j2 : Option am_V) (j3 : Option am_V) (g2 : am_loO 16 j2 = true) (g3 : am_loO 16 j3 = true) (hp : wp0_reads_c8 y x c t) : am_lf (am_mk kb0_reads 0 0 16) [8, 16, 21, 26, 30, 89, 115, 116, 119, 139] (8, [some (.inr (.inl 0)), some (.inr (.inl 14)), j2, j3], [], (kw_PT y x c t), 0, 0) = some (some (.inl ((fn0_reads_c8 y x c t).1)), (kw_PT ((fn0_reads_c8 y x c t).2.1) ((fn0_reads_c8 y x c t).2.2.1) ((fn0_reads_c8 y x c t).2.2.2) t)) := by
  unfold wp0_reads_c8 at hp
  have i16 := @rc0_reads_16
  refine am_lf_eq ?_
  generalize am_lf (am_mk kb0_reads 0 0 16) [8, 16, 21, 26, 30, 89, 115, 116, 119, 139] = kt at i16 ⊢
  refine am_cy (pre := pr1_enter) (f := fm1_enter) (a' := [.inr (.inl 0), .inl (0 : Int32)]) (wc := (kw_C c)) (w' := (kw_PT y x (fn1_enter c (0 : Int32)) t)) (r := (none, (kw_C (fn1_enter c (0 : Int32))), 0, 0)) ?_ ?_ ?_ ?_ ?_ ?_ ?_ ?_ ?_ ?_
  · exact ks_PT_C_2_o y x c t
  · rfl
  · rfl
  · exact ks_PT_C_2_s y x c t
  · exact ⟨c, (0 : Int32), rfl, rfl, hp.1⟩
  · exact fe1_enter c (0 : Int32)
  · exact kwl_C (fn1_enter c (0 : Int32))
  · rfl
  · exact ks_PT_C_2_m y x c t (fn1_enter c (0 : Int32))
  have e : fn0_reads_c8 y x c t = fn0_reads_c16 y x (fn1_enter c (0 : Int32)) t := by
    rw [fn0_reads_c8]
  rw [e]
  exact i16 y x (fn1_enter c (0 : Int32)) t _ _ g2 g3 hp.2
noncomputable def fn0_reads (y : qt0) (x : qt5) (c : qt1) (t : qt6) : Int32 × qt0 × qt5 × qt1 := Classical.choose (⟨_, rfl⟩ : ∃ z : Int32 × qt0 × qt5 × qt1, z = (fn0_reads_c8 y (fn5_cut x t) c t))
theorem fq0_reads (y : qt0) (x : qt5) (c : qt1) (t : qt6) : fn0_reads y x c t = (fn0_reads_c8 y (fn5_cut x t) c t) := Classical.choose_spec (⟨_, rfl⟩ : ∃ z : Int32 × qt0 × qt5 × qt1, z = (fn0_reads_c8 y (fn5_cut x t) c t))
def wp0_reads (y : qt0) (x : qt5) (c : qt1) (t : qt6) : Prop := ((wp5_cut x t) ∧ (wp0_reads_c8 y (fn5_cut x t) c t))
set_option maxRecDepth 100000 in
set_option maxHeartbeats 4000000 in
theorem re0_reads (y : qt0) (x : qt5) (c : qt1) (t : qt6) (hp : wp0_reads y x c t) : am_lf (am_mk kb0_reads 0 0 16) [8, 16, 21, 26, 30, 89, 115, 116, 119, 139] (0, am_L0 [.inr (.inl 0), .inr (.inl 14)] 4, [], (kw_PT y x c t), 0, 0) = some (some (.inl ((fn0_reads y x c t).1)), (kw_PT ((fn0_reads y x c t).2.1) ((fn0_reads y x c t).2.2.1) ((fn0_reads y x c t).2.2.2) t)) := by
  unfold wp0_reads at hp
  have i8 := @rc0_reads_8
  refine am_lf_eq ?_
  generalize am_lf (am_mk kb0_reads 0 0 16) [8, 16, 21, 26, 30, 89, 115, 116, 119, 139] = kt at i8 ⊢
  refine am_cy (pre := pr5_cut) (f := fm5_cut) (a' := [.inr (.inl 0), .inr (.inl 8)]) (wc := (kw_ST x t)) (w' := (kw_PT y (fn5_cut x t) c t)) (r := (none, (kw_ST (fn5_cut x t) t), 0, 0)) ?_ ?_ ?_ ?_ ?_ ?_ ?_ ?_ ?_ ?_
  · exact ks_PT_ST_1_3_o y x c t
  · rfl
  · rfl
  · exact ks_PT_ST_1_3_s y x c t
  · exact ⟨x, t, rfl, rfl, hp.1⟩
  · exact fe5_cut x t
  · exact kwl_ST (fn5_cut x t) t
  · rfl
  · exact ks_PT_ST_1_3_m y x c t (fn5_cut x t) t
  have e : fn0_reads y x c t = fn0_reads_c8 y (fn5_cut x t) c t := by
    rw [fq0_reads]
  rw [e]
  exact i8 y (fn5_cut x t) c t _ _ rfl rfl hp.2
abbrev pr0_reads : List am_V → List am_C → Prop := fun a w => ∃ (y : qt0) (x : qt5) (c : qt1) (t : qt6), a = [.inr (.inl 0), .inr (.inl 14)] ∧ w = (kw_PT y x c t) ∧ wp0_reads y x c t
noncomputable def fm0_reads : am_M := fun a w => (fun (z : Int32 × qt0 × qt5 × qt1) => (some (.inl (z.1)), (kw_PT (z.2.1) (z.2.2.1) (z.2.2.2) (qs6 w 14)), 0, 0)) (fn0_reads (qs0 w 0) (qs5 w 5) (qs1 w 13) (qs6 w 14))
theorem fe0_reads (y : qt0) (x : qt5) (c : qt1) (t : qt6) : fm0_reads [.inr (.inl 0), .inr (.inl 14)] (kw_PT y x c t) = (some (.inl ((fn0_reads y x c t).1)), (kw_PT ((fn0_reads y x c t).2.1) ((fn0_reads y x c t).2.2.1) ((fn0_reads y x c t).2.2.2) t), 0, 0) := rfl
set_option maxRecDepth 100000 in
set_option maxHeartbeats 4000000 in
theorem rn0_reads : ∀ (a : List am_V) (w : List am_C), pr0_reads a w → ∃ nq, am_ev (am_mk kb0_reads (fm0_reads a w).2.2.1 (fm0_reads a w).2.2.2 w.length) [8, 16, 21, 26, 30, 89, 115, 116, 119, 139] nq (0, am_L0 a 4, [], w, 0, 0) = some ((fm0_reads a w).1, (fm0_reads a w).2.1) := by
  rintro a w ⟨y, x, c, t, rfl, rfl, hp⟩
  rw [fe0_reads y x c t]
  exact am_lf_ev (re0_reads y x c t hp)
theorem rl0_reads : ∀ (a : List am_V) (w : List am_C), pr0_reads a w → a.length ≤ 4 := by
  rintro a w ⟨y, x, c, t, rfl, rfl, hp⟩
  exact Nat.le_of_ble_eq_true rfl
theorem pa0_reads : ∀ a w, pr0_reads a w → ∃ q a' ci fs r, a = .inr (.inl q) :: a' ∧ w[q]? = some (.inr (ci, fs)) ∧ hn_cl[ci]? = some r ∧ r.1 = hn_R0 := by
  rintro a w ⟨y, x, c, t, rfl, rfl, hp⟩
  exact ⟨0, _, 0, _, _, rfl, rfl, rfl, rfl⟩
set_option maxRecDepth 100000 in
set_option maxHeartbeats 4000000 in
theorem km0_reads {l : Launch} {E : (Nat → Prop) → State → Prop} {D : va_G} {ou : Nat → Nat} {ca : Nat → ClassId} (hE : hg_E E ou) : hg_Met l E D ou ca hy0_reads prog_2_method_2_code 4 (some .boolean) 9 pr0_reads fm0_reads := by
  refine am_met (B := kb0_reads) (cuts := [8, 16, 21, 26, 30, 89, 115, 116, 119, 139]) (nt := 5) (by decide +kernel) rfl rfl (hg_tys_ok ca) ?_ (by decide) rl0_reads ?_ rn0_reads
  · exact fun t ht => List.mem_cons_of_mem _ (hg_arr t ht)
  · intro a w hp ad p e R s m args below meth c hR X hEs hnm
    have hR1 : 9 ≤ R.frames ∧ 360 ≤ R.locals := by rw [hR]; exact ⟨Nat.le_refl _, Nat.le_refl _⟩
    have hN := hE.2.1 _ _ hEs
    refine ⟨kd0_reads_ok, fun index ci fi mode hq => kf0_ok X.2.2.2.2.1 hN.1 (index, ci, fi, mode) (am_as_mem hq), fun index ci fs hq => (am_no hq).elim, fun x v hq => (am_no hq).elim, ?_, fun o t n f hq => (am_no hq).elim, rfl, rfl, by rw [hR]; exact Nat.le_refl _, by rw [hR]; exact Nat.le_refl _⟩
    intro pc sel n0 pre0 f0 hq
    have hz : ∀ q ∈ ki0_reads, am_CK p l e R s m args below meth c D hn_cl (va_A (am_w ad ou ca w) s.heap.size) ou ca 4 q.1 q.2.2.1 q.2.2.2.1 q.2.2.2.2 := by
      refine am_allc (am_ck_V (n := 1) X hEs hE.1 (km5_cut hE) (hg_good (gw_mem 314 (by decide +kernel))) rfl (List.mem_cons_of_mem _ (gw_mem 73 (by decide +kernel))) (List.mem_cons_of_mem _ (gw_mem 311 (by decide +kernel))) (List.mem_cons_of_mem _ (gw_mem 312 (by decide +kernel))) (List.mem_cons_of_mem _ (gw_mem 313 (by decide +kernel))) pa5_cut (by decide +kernel) ⟨Nat.le_trans (by decide) hR1.1, Nat.le_trans (by decide) hR1.2⟩ (kd0_reads_ok (5, .invokevirtual 42, 3) (List.mem_of_getElem? (i := 3) rfl))) (am_allc (am_ck_V (n := 1) X hEs hE.1 (km1_enter hE) (hg_good (gw_mem 334 (by decide +kernel))) rfl (List.mem_cons_of_mem _ (gw_mem 74 (by decide +kernel))) (List.mem_cons_of_mem _ (gw_mem 331 (by decide +kernel))) (List.mem_cons_of_mem _ (gw_mem 332 (by decide +kernel))) (List.mem_cons_of_mem _ (gw_mem 333 (by decide +kernel))) pa1_enter (by decide +kernel) ⟨Nat.le_trans (by decide) hR1.1, Nat.le_trans (by decide) hR1.2⟩ (kd0_reads_ok (13, .invokevirtual 46, 3) (List.mem_of_getElem? (i := 7) rfl))) (am_allc (am_ck_V (n := 1) X hEs hE.1 (km5_kind hE) (hg_good (gw_mem 338 (by decide +kernel))) rfl (List.mem_cons_of_mem _ (gw_mem 73 (by decide +kernel))) (List.mem_cons_of_mem _ (gw_mem 335 (by decide +kernel))) (List.mem_cons_of_mem _ (gw_mem 336 (by decide +kernel))) (List.mem_cons_of_mem _ (gw_mem 337 (by decide +kernel))) pa5_kind (by decide +kernel) ⟨Nat.le_trans (by decide) hR1.1, Nat.le_trans (by decide) hR1.2⟩ (kd0_reads_ok (50, .invokevirtual 59, 3) (List.mem_of_getElem? (i := 28) rfl))) (am_allc (am_ck_S (n := 3) X hEs hE.1 (km3_read hE) (hg_good (gw_mem 345 (by decide +kernel))) rfl (List.mem_cons_of_mem _ (gw_mem 82 (by decide +kernel))) (List.mem_cons_of_mem _ (gw_mem 343 (by decide +kernel))) (List.mem_cons_of_mem _ (gw_mem 344 (by decide +kernel))) (by decide +kernel) ⟨Nat.le_trans (by decide) hR1.1, Nat.le_trans (by decide) hR1.2⟩ (kd0_reads_ok (66, .invokestatic 63, 3) (List.mem_of_getElem? (i := 36) rfl))) (am_allc (am_ck_V (n := 1) X hEs hE.1 (km0_readSymbol hE) (hg_good (gw_mem 517 (by decide +kernel))) rfl (List.mem_cons_of_mem _ (gw_mem 72 (by decide +kernel))) (List.mem_cons_of_mem _ (gw_mem 514 (by decide +kernel))) (List.mem_cons_of_mem _ (gw_mem 516 (by decide +kernel))) (List.mem_cons_of_mem _ (gw_mem 3 (by decide +kernel))) pa0_readSymbol (by decide +kernel) ⟨Nat.le_trans (by decide) hR1.1, Nat.le_trans (by decide) hR1.2⟩ (kd0_reads_ok (74, .invokevirtual 69, 3) (List.mem_of_getElem? (i := 40) rfl))) (am_allc (am_ck_max X (List.mem_cons_of_mem _ (gw_mem 562 (by decide +kernel))) (List.mem_cons_of_mem _ (gw_mem 107 (by decide +kernel))) (List.mem_cons_of_mem _ (gw_mem 70 (by decide +kernel))) (List.mem_cons_of_mem _ (gw_mem 108 (by decide +kernel))) ⟨Nat.le_trans (by decide) hR1.1, Nat.le_trans (by decide) hR1.2⟩ (kd0_reads_ok (81, .invokestatic 72, 3) (List.mem_of_getElem? (i := 45) rfl))) (am_allc (am_ck_V (n := 1) X hEs hE.1 (km5_place hE) (hg_good (gw_mem 566 (by decide +kernel))) rfl (List.mem_cons_of_mem _ (gw_mem 73 (by decide +kernel))) (List.mem_cons_of_mem _ (gw_mem 563 (by decide +kernel))) (List.mem_cons_of_mem _ (gw_mem 564 (by decide +kernel))) (List.mem_cons_of_mem _ (gw_mem 565 (by decide +kernel))) pa5_place (by decide +kernel) ⟨Nat.le_trans (by decide) hR1.1, Nat.le_trans (by decide) hR1.2⟩ (kd0_reads_ok (136, .invokevirtual 85, 3) (List.mem_of_getElem? (i := 72) rfl))) (am_all0)))))))
    exact hz _ (am_as_mem hq)
noncomputable def ki0_holeCode : List (Nat × Option (List Nat) × Nat × (List am_V → List am_C → Prop) × am_M) := []
noncomputable def kb0_holeCode : am_B := (kd0_holeCode, am_as kf0, hn_ty, fun _ => none, fun _ => none, am_as ki0_holeCode, fun _ => none, 5, 2, (some .int))
noncomputable def fn0_holeCode (y : qt0) (x : qt5) (c : qt1) (p0 : Int32) : Int32 := Classical.choose (⟨_, rfl⟩ : ∃ z : Int32, z = (if (qg0_compiled y) = 0 then (-1 : Int32) else (if p0 < 0 then (-1 : Int32) else (if (qg0_holeCount y) ≤ p0 then (-1 : Int32) else (if (240 : Int32) ≤ p0 then (-1 : Int32) else ((qg0_holeCodes y) (p0).toNatClampNeg))))))
theorem fq0_holeCode (y : qt0) (x : qt5) (c : qt1) (p0 : Int32) : fn0_holeCode y x c p0 = (if (qg0_compiled y) = 0 then (-1 : Int32) else (if p0 < 0 then (-1 : Int32) else (if (qg0_holeCount y) ≤ p0 then (-1 : Int32) else (if (240 : Int32) ≤ p0 then (-1 : Int32) else ((qg0_holeCodes y) (p0).toNatClampNeg))))) := Classical.choose_spec (⟨_, rfl⟩ : ∃ z : Int32, z = (if (qg0_compiled y) = 0 then (-1 : Int32) else (if p0 < 0 then (-1 : Int32) else (if (qg0_holeCount y) ≤ p0 then (-1 : Int32) else (if (240 : Int32) ≤ p0 then (-1 : Int32) else ((qg0_holeCodes y) (p0).toNatClampNeg))))))
def wp0_holeCode (y : qt0) (x : qt5) (c : qt1) (p0 : Int32) : Prop := (((qg0_compiled y) = 0 → True) ∧ (¬ (qg0_compiled y) = 0 → ((p0 < 0 → True) ∧ (¬ p0 < 0 → (((qg0_holeCount y) ≤ p0 → True) ∧ (¬ (qg0_holeCount y) ≤ p0 → (((240 : Int32) ≤ p0 → True) ∧ (¬ (240 : Int32) ≤ p0 → (am_inb p0 240 = true)))))))))
set_option maxRecDepth 100000 in
set_option maxHeartbeats 4000000 in
theorem re0_holeCode (y : qt0) (x : qt5) (c : qt1) (p0 : Int32) (hp : wp0_holeCode y x c p0) : am_lf (am_mk kb0_holeCode 0 0 14) [] (0, am_L0 [.inr (.inl 0), .inl p0] 2, [], (kw_P y x c), 0, 0) = some (some (.inl (fn0_holeCode y x c p0)), (kw_P y x c)) := by
  unfold wp0_holeCode at hp
  refine am_lf_eq ?_
  generalize am_lf (am_mk kb0_holeCode 0 0 14) [] = kt
  refine am_if (c := (qg0_compiled y) = 0) (fun h1 => ?_) (fun h1 => ?_)
  · have e : fn0_holeCode y x c p0 = (-1 : Int32) := by
      rw [fq0_holeCode]
      rw [if_pos h1]
    rw [e] <;> rfl
  · have q1 := hp.2 h1
    refine am_if (c := p0 < 0) (fun h2 => ?_) (fun h2 => ?_)
    · have e : fn0_holeCode y x c p0 = (-1 : Int32) := by
        rw [fq0_holeCode]
        rw [if_neg h1, if_pos h2]
      rw [e] <;> rfl
    · have q2 := q1.2 h2
      refine am_if (c := (qg0_holeCount y) ≤ p0) (fun h3 => ?_) (fun h3 => ?_)
      · have e : fn0_holeCode y x c p0 = (-1 : Int32) := by
          rw [fq0_holeCode]
          rw [if_neg h1, if_neg h2, if_pos h3]
        rw [e] <;> rfl
      · have q3 := q2.2 h3
        refine am_if (c := (240 : Int32) ≤ p0) (fun h4 => ?_) (fun h4 => ?_)
        · have e : fn0_holeCode y x c p0 = (-1 : Int32) := by
            rw [fq0_holeCode]
            rw [if_neg h1, if_neg h2, if_neg h3, if_pos h4]
          rw [e] <;> rfl
        · have q4 := q3.2 h4
          refine am_ci (c := am_inb p0 240 = true) q4 ?_
          have e : fn0_holeCode y x c p0 = ((qg0_holeCodes y) (p0).toNatClampNeg) := by
            rw [fq0_holeCode]
            rw [if_neg h1, if_neg h2, if_neg h3, if_neg h4]
          rw [e] <;> rfl
abbrev pr0_holeCode : List am_V → List am_C → Prop := fun a w => ∃ (y : qt0) (x : qt5) (c : qt1) (p0 : Int32), a = [.inr (.inl 0), .inl p0] ∧ w = (kw_P y x c) ∧ wp0_holeCode y x c p0
noncomputable def fm0_holeCode : am_M := fun a w => (fun (z : Int32) => (some (.inl z), (kw_P (qs0 w 0) (qs5 w 5) (qs1 w 13)), 0, 0)) (fn0_holeCode (qs0 w 0) (qs5 w 5) (qs1 w 13) (am_i (am_an a 1)))
theorem fe0_holeCode (y : qt0) (x : qt5) (c : qt1) (p0 : Int32) : fm0_holeCode [.inr (.inl 0), .inl p0] (kw_P y x c) = (some (.inl (fn0_holeCode y x c p0)), (kw_P y x c), 0, 0) := rfl
set_option maxRecDepth 100000 in
set_option maxHeartbeats 4000000 in
theorem rn0_holeCode : ∀ (a : List am_V) (w : List am_C), pr0_holeCode a w → ∃ nq, am_ev (am_mk kb0_holeCode (fm0_holeCode a w).2.2.1 (fm0_holeCode a w).2.2.2 w.length) [] nq (0, am_L0 a 2, [], w, 0, 0) = some ((fm0_holeCode a w).1, (fm0_holeCode a w).2.1) := by
  rintro a w ⟨y, x, c, p0, rfl, rfl, hp⟩
  rw [fe0_holeCode y x c p0]
  exact am_lf_ev (re0_holeCode y x c p0 hp)
theorem rl0_holeCode : ∀ (a : List am_V) (w : List am_C), pr0_holeCode a w → a.length ≤ 2 := by
  rintro a w ⟨y, x, c, p0, rfl, rfl, hp⟩
  exact Nat.le_of_ble_eq_true rfl
theorem pa0_holeCode : ∀ a w, pr0_holeCode a w → ∃ q a' ci fs r, a = .inr (.inl q) :: a' ∧ w[q]? = some (.inr (ci, fs)) ∧ hn_cl[ci]? = some r ∧ r.1 = hn_R0 := by
  rintro a w ⟨y, x, c, p0, rfl, rfl, hp⟩
  exact ⟨0, _, 0, _, _, rfl, rfl, rfl, rfl⟩
set_option maxRecDepth 100000 in
set_option maxHeartbeats 4000000 in
theorem km0_holeCode {l : Launch} {E : (Nat → Prop) → State → Prop} {D : va_G} {ou : Nat → Nat} {ca : Nat → ClassId} (hE : hg_E E ou) : hg_Met l E D ou ca hy0_holeCode prog_2_method_3_code 2 (some .int) 0 pr0_holeCode fm0_holeCode := by
  refine am_met (B := kb0_holeCode) (cuts := []) (nt := 5) (by decide +kernel) rfl rfl (hg_tys_ok ca) ?_ (by decide) rl0_holeCode ?_ rn0_holeCode
  · exact fun t ht => List.mem_cons_of_mem _ (hg_arr t ht)
  · intro a w hp ad p e R s m args below meth c hR X hEs hnm
    have hR1 : 0 ≤ R.frames ∧ 0 ≤ R.locals := by rw [hR]; exact ⟨Nat.le_refl _, Nat.le_refl _⟩
    have hN := hE.2.1 _ _ hEs
    refine ⟨kd0_holeCode_ok, fun index ci fi mode hq => kf0_ok X.2.2.2.2.1 hN.1 (index, ci, fi, mode) (am_as_mem hq), fun index ci fs hq => (am_no hq).elim, fun x v hq => (am_no hq).elim, ?_, fun o t n f hq => (am_no hq).elim, rfl, rfl, by rw [hR]; exact Nat.le_refl _, by rw [hR]; exact Nat.le_refl _⟩
    intro pc sel n0 pre0 f0 hq
    exact (am_no hq).elim
