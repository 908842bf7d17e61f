noncomputable def ki9_type : List (Nat × Option (List Nat) × Nat × (List am_V → List am_C → Prop) × am_M) := [(1, some [], 1, pr4_isWritable, fm4_isWritable), (12, some [1, 2], 2, pr6_put, fm6_put)]
noncomputable def kb9_type : am_B := (kd9_type, am_as kf9, hn_ty, fun _ => none, fun _ => none, am_as ki9_type, fun _ => none, 5, 2, (some .boolean))
noncomputable def fn9_type (r : qt6) (t : qt6) (m : qt2) (y : qt0) (x : qt5) (c : qt1) (u : qt6) (p0 : Int32) : Int32 × qt6 := Classical.choose (⟨_, rfl⟩ : ∃ z : Int32 × qt6, z = (if (fn4_isWritable p0) = 0 then ((0 : Int32), r) else (if (fn6_put 40 r p0).1 = 0 then ((0 : Int32), (fn6_put 40 r p0).2) else ((1 : Int32), (fn6_put 40 r p0).2))))
theorem fq9_type (r : qt6) (t : qt6) (m : qt2) (y : qt0) (x : qt5) (c : qt1) (u : qt6) (p0 : Int32) : fn9_type r t m y x c u p0 = (if (fn4_isWritable p0) = 0 then ((0 : Int32), r) else (if (fn6_put 40 r p0).1 = 0 then ((0 : Int32), (fn6_put 40 r p0).2) else ((1 : Int32), (fn6_put 40 r p0).2))) := Classical.choose_spec (⟨_, rfl⟩ : ∃ z : Int32 × qt6, z = (if (fn4_isWritable p0) = 0 then ((0 : Int32), r) else (if (fn6_put 40 r p0).1 = 0 then ((0 : Int32), (fn6_put 40 r p0).2) else ((1 : Int32), (fn6_put 40 r p0).2))))
def wp9_type (r : qt6) (t : qt6) (m : qt2) (y : qt0) (x : qt5) (c : qt1) (u : qt6) (p0 : Int32) : Prop := ((wp4_isWritable p0) ∧ (((fn4_isWritable p0) = 0 → True) ∧ (¬ (fn4_isWritable p0) = 0 → (wp6_put 40 r p0))))
set_option maxRecDepth 100000 in
set_option maxHeartbeats 4000000 in
theorem re9_type (r : qt6) (t : qt6) (m : qt2) (y : qt0) (x : qt5) (c : qt1) (u : qt6) (p0 : Int32) (hp : wp9_type r t m y x c u p0) : am_lf (am_mk kb9_type 0 0 27) [] (0, am_L0 [.inr (.inl 0), .inl p0] 2, [], (kw_H r t m y x c u), 0, 0) = some (some (.inl ((fn9_type r t m y x c u p0).1)), (kw_H ((fn9_type r t m y x c u p0).2) t m y x c u)) := by
  unfold wp9_type at hp
  refine am_lf_eq ?_
  generalize am_lf (am_mk kb9_type 0 0 27) [] = kt
  refine am_cy (pre := pr4_isWritable) (f := fm4_isWritable) (a' := [.inl p0]) (wc := []) (w' := (kw_H r t m y x c u)) (r := (some (.inl (fn4_isWritable p0)), [], 0, 0)) ?_ ?_ ?_ ?_ ?_ ?_ ?_ ?_ ?_ ?_
  · exact am_sow0 _
  · rfl
  · rfl
  · exact am_sub0 _
  · exact ⟨p0, rfl, rfl, hp.1⟩
  · exact fe4_isWritable p0
  · exact rfl
  · rfl
  · exact am_mix0 _
  refine am_if (c := (fn4_isWritable p0) = 0) (fun h1 => ?_) (fun h1 => ?_)
  · have e : fn9_type r t m y x c u p0 = ((0 : Int32), r) := by
      rw [fq9_type]
      rw [if_pos h1]
    rw [e] <;> rfl
  · have q1 := hp.2.2 h1
    refine am_cy (pre := pr6_put) (f := fm6_put) (a' := [.inr (.inl 0), .inl p0]) (wc := (kw_T 40 r)) (w' := (kw_H ((fn6_put 40 r p0).2) t m y x c u)) (r := (some (.inl ((fn6_put 40 r p0).1)), (kw_T 40 ((fn6_put 40 r p0).2)), 0, 0)) ?_ ?_ ?_ ?_ ?_ ?_ ?_ ?_ ?_ ?_
    · exact ks_H_T_1_o r t m y x c u
    · rfl
    · rfl
    · exact ks_H_T_1_s r t m y x c u
    · exact ⟨40, r, p0, rfl, rfl, q1⟩
    · exact fe6_put 40 r p0
    · exact kwl_T 40 ((fn6_put 40 r p0).2)
    · rfl
    · exact ks_H_T_1_m r t m y x c u ((fn6_put 40 r p0).2)
    refine am_if (c := (fn6_put 40 r p0).1 = 0) (fun h2 => ?_) (fun h2 => ?_)
    · have e : fn9_type r t m y x c u p0 = ((0 : Int32), (fn6_put 40 r p0).2) := by
        rw [fq9_type]
        rw [if_neg h1, if_pos h2]
      rw [e] <;> rfl
    · have e : fn9_type r t m y x c u p0 = ((1 : Int32), (fn6_put 40 r p0).2) := by
        rw [fq9_type]
        rw [if_neg h1, if_neg h2]
      rw [e] <;> rfl
abbrev pr9_type : List am_V → List am_C → Prop := fun a w => ∃ (r : qt6) (t : qt6) (m : qt2) (y : qt0) (x : qt5) (c : qt1) (u : qt6) (p0 : Int32), a = [.inr (.inl 0), .inl p0] ∧ w = (kw_H r t m y x c u) ∧ wp9_type r t m y x c u p0
noncomputable def fm9_type : am_M := fun a w => (fun (z : Int32 × qt6) => (some (.inl (z.1)), (kw_H (z.2) (qs6 w 3) (qs2 w 5) (qs0 w 10) (qs5 w 15) (qs1 w 23) (qs6 w 25)), 0, 0)) (fn9_type (qs6 w 1) (qs6 w 3) (qs2 w 5) (qs0 w 10) (qs5 w 15) (qs1 w 23) (qs6 w 25) (am_i (am_an a 1)))
theorem fe9_type (r : qt6) (t : qt6) (m : qt2) (y : qt0) (x : qt5) (c : qt1) (u : qt6) (p0 : Int32) : fm9_type [.inr (.inl 0), .inl p0] (kw_H r t m y x c u) = (some (.inl ((fn9_type r t m y x c u p0).1)), (kw_H ((fn9_type r t m y x c u p0).2) t m y x c u), 0, 0) := rfl
set_option maxRecDepth 100000 in
set_option maxHeartbeats 4000000 in
theorem rn9_type : ∀ (a : List am_V) (w : List am_C), pr9_type a w → ∃ nq, am_ev (am_mk kb9_type (fm9_type a w).2.2.1 (fm9_type a w).2.2.2 w.length) [] nq (0, am_L0 a 2, [], w, 0, 0) = some ((fm9_type a w).1, (fm9_type a w).2.1) := by
  rintro a w ⟨r, t, m, y, x, c, u, p0, rfl, rfl, hp⟩
  rw [fe9_type r t m y x c u p0]
  exact am_lf_ev (re9_type r t m y x c u p0 hp)
theorem rl9_type : ∀ (a : List am_V) (w : List am_C), pr9_type a w → a.length ≤ 2 := by
  rintro a w ⟨r, t, m, y, x, c, u, p0, rfl, rfl, hp⟩
  exact Nat.le_of_ble_eq_true rfl
theorem pa9_type : ∀ a w, pr9_type a w → ∃ q a' ci fs r, a = .inr (.inl q) :: a' ∧ w[q]? = some (.inr (ci, fs)) ∧ hn_cl[ci]? = some r ∧ r.1 = hn_R9 := by
  rintro a w ⟨r, t, m, y, x, c, u, p0, rfl, rfl, hp⟩
  exact ⟨0, _, 9, _, _, rfl, rfl, rfl, rfl⟩
set_option maxRecDepth 100000 in
set_option maxHeartbeats 4000000 in
theorem km9_type {l : Launch} {E : (Nat → Prop) → State → Prop} {D : va_G} {ou : Nat → Nat} {ca : Nat → ClassId} (hE : hg_E E ou) : hg_Met l E D ou ca hy9_type prog_1_method_2_code 2 (some .boolean) 1 pr9_type fm9_type := by
  refine am_met (B := kb9_type) (cuts := []) (nt := 5) (by decide +kernel) rfl rfl (hg_tys_ok ca) ?_ (by decide) rl9_type ?_ rn9_type
  · exact fun t ht => List.mem_cons_of_mem _ (hg_arr t ht)
  · intro a w hp ad p e R s m args below meth c hR X hEs hnm
    have hR1 : 1 ≤ R.frames ∧ 40 ≤ R.locals := by rw [hR]; exact ⟨Nat.le_refl _, Nat.le_refl _⟩
    have hN := hE.2.1 _ _ hEs
    refine ⟨kd9_type_ok, fun index ci fi mode hq => kf9_ok X.2.2.2.2.1 hN.1 (index, ci, fi, mode) (am_as_mem hq), fun index ci fs hq => (am_no hq).elim, fun x v hq => (am_no hq).elim, ?_, fun o t n f hq => (am_no hq).elim, rfl, rfl, by rw [hR]; exact Nat.le_refl _, by rw [hR]; exact Nat.le_refl _⟩
    intro pc sel n0 pre0 f0 hq
    have hz : ∀ q ∈ ki9_type, am_CK p l e R s m args below meth c D hn_cl (va_A (am_w ad ou ca w) s.heap.size) ou ca 2 q.1 q.2.2.1 q.2.2.2.1 q.2.2.2.2 := by
      refine am_allc (am_ck_S (n := 1) X hEs hE.1 (km4_isWritable hE) (hg_good (gw_mem 286 (by decide +kernel))) rfl (List.mem_cons_of_mem _ (gw_mem 77 (by decide +kernel))) (List.mem_cons_of_mem _ (gw_mem 284 (by decide +kernel))) (List.mem_cons_of_mem _ (gw_mem 285 (by decide +kernel))) (by decide +kernel) ⟨Nat.le_trans (by decide) hR1.1, Nat.le_trans (by decide) hR1.2⟩ (kd9_type_ok (1, .invokestatic 42, 3) (List.mem_of_getElem? (i := 1) rfl))) (am_allc (am_ck_V (n := 1) X hEs hE.1 (km6_put hE) (hg_good (gw_mem 290 (by decide +kernel))) rfl (List.mem_cons_of_mem _ (gw_mem 69 (by decide +kernel))) (List.mem_cons_of_mem _ (gw_mem 287 (by decide +kernel))) (List.mem_cons_of_mem _ (gw_mem 288 (by decide +kernel))) (List.mem_cons_of_mem _ (gw_mem 289 (by decide +kernel))) pa6_put (by decide +kernel) ⟨Nat.le_trans (by decide) hR1.1, Nat.le_trans (by decide) hR1.2⟩ (kd9_type_ok (12, .invokevirtual 48, 3) (List.mem_of_getElem? (i := 6) rfl))) (am_all0))
    exact hz _ (am_as_mem hq)
noncomputable def ki9_wipe : List (Nat × Option (List Nat) × Nat × (List am_V → List am_C → Prop) × am_M) := [(4, some [1, 2], 1, pr6_empty, fm6_empty)]
noncomputable def kb9_wipe : am_B := (kd9_wipe, am_as kf9, hn_ty, fun _ => none, fun _ => none, am_as ki9_wipe, fun _ => none, 5, 1, (some .int))
noncomputable def fn9_wipe (r : qt6) (t : qt6) (m : qt2) (y : qt0) (x : qt5) (c : qt1) (u : qt6) : Int32 × qt6 := Classical.choose (⟨_, rfl⟩ : ∃ z : Int32 × qt6, z = ((fn6_empty 40 r).1, (fn6_empty 40 r).2))
theorem fq9_wipe (r : qt6) (t : qt6) (m : qt2) (y : qt0) (x : qt5) (c : qt1) (u : qt6) : fn9_wipe r t m y x c u = ((fn6_empty 40 r).1, (fn6_empty 40 r).2) := Classical.choose_spec (⟨_, rfl⟩ : ∃ z : Int32 × qt6, z = ((fn6_empty 40 r).1, (fn6_empty 40 r).2))
def wp9_wipe (r : qt6) (t : qt6) (m : qt2) (y : qt0) (x : qt5) (c : qt1) (u : qt6) : Prop := (wp6_empty 40 r)
set_option maxRecDepth 100000 in
set_option maxHeartbeats 4000000 in
theorem re9_wipe (r : qt6) (t : qt6) (m : qt2) (y : qt0) (x : qt5) (c : qt1) (u : qt6) (hp : wp9_wipe r t m y x c u) : am_lf (am_mk kb9_wipe 0 0 27) [] (0, am_L0 [.inr (.inl 0)] 1, [], (kw_H r t m y x c u), 0, 0) = some (some (.inl ((fn9_wipe r t m y x c u).1)), (kw_H ((fn9_wipe r t m y x c u).2) t m y x c u)) := by
  unfold wp9_wipe at hp
  refine am_lf_eq ?_
  generalize am_lf (am_mk kb9_wipe 0 0 27) [] = kt
  refine am_cy (pre := pr6_empty) (f := fm6_empty) (a' := [.inr (.inl 0)]) (wc := (kw_T 40 r)) (w' := (kw_H ((fn6_empty 40 r).2) t m y x c u)) (r := (some (.inl ((fn6_empty 40 r).1)), (kw_T 40 ((fn6_empty 40 r).2)), 0, 0)) ?_ ?_ ?_ ?_ ?_ ?_ ?_ ?_ ?_ ?_
  · exact ks_H_T_1_o r t m y x c u
  · rfl
  · rfl
  · exact ks_H_T_1_s r t m y x c u
  · exact ⟨40, r, rfl, rfl, hp⟩
  · exact fe6_empty 40 r
  · exact kwl_T 40 ((fn6_empty 40 r).2)
  · rfl
  · exact ks_H_T_1_m r t m y x c u ((fn6_empty 40 r).2)
  have e : fn9_wipe r t m y x c u = ((fn6_empty 40 r).1, (fn6_empty 40 r).2) := by
    rw [fq9_wipe]
  rw [e] <;> rfl
abbrev pr9_wipe : List am_V → List am_C → Prop := fun a w => ∃ (r : qt6) (t : qt6) (m : qt2) (y : qt0) (x : qt5) (c : qt1) (u : qt6), a = [.inr (.inl 0)] ∧ w = (kw_H r t m y x c u) ∧ wp9_wipe r t m y x c u
noncomputable def fm9_wipe : am_M := fun a w => (fun (z : Int32 × qt6) => (some (.inl (z.1)), (kw_H (z.2) (qs6 w 3) (qs2 w 5) (qs0 w 10) (qs5 w 15) (qs1 w 23) (qs6 w 25)), 0, 0)) (fn9_wipe (qs6 w 1) (qs6 w 3) (qs2 w 5) (qs0 w 10) (qs5 w 15) (qs1 w 23) (qs6 w 25))
theorem fe9_wipe (r : qt6) (t : qt6) (m : qt2) (y : qt0) (x : qt5) (c : qt1) (u : qt6) : fm9_wipe [.inr (.inl 0)] (kw_H r t m y x c u) = (some (.inl ((fn9_wipe r t m y x c u).1)), (kw_H ((fn9_wipe r t m y x c u).2) t m y x c u), 0, 0) := rfl
set_option maxRecDepth 100000 in
set_option maxHeartbeats 4000000 in
theorem rn9_wipe : ∀ (a : List am_V) (w : List am_C), pr9_wipe a w → ∃ nq, am_ev (am_mk kb9_wipe (fm9_wipe a w).2.2.1 (fm9_wipe a w).2.2.2 w.length) [] nq (0, am_L0 a 1, [], w, 0, 0) = some ((fm9_wipe a w).1, (fm9_wipe a w).2.1) := by
  rintro a w ⟨r, t, m, y, x, c, u, rfl, rfl, hp⟩
  rw [fe9_wipe r t m y x c u]
  exact am_lf_ev (re9_wipe r t m y x c u hp)
theorem rl9_wipe : ∀ (a : List am_V) (w : List am_C), pr9_wipe a w → a.length ≤ 1 := by
  rintro a w ⟨r, t, m, y, x, c, u, rfl, rfl, hp⟩
  exact Nat.le_of_ble_eq_true rfl
theorem pa9_wipe : ∀ a w, pr9_wipe a w → ∃ q a' ci fs r, a = .inr (.inl q) :: a' ∧ w[q]? = some (.inr (ci, fs)) ∧ hn_cl[ci]? = some r ∧ r.1 = hn_R9 := by
  rintro a w ⟨r, t, m, y, x, c, u, rfl, rfl, hp⟩
  exact ⟨0, _, 9, _, _, rfl, rfl, rfl, rfl⟩
set_option maxRecDepth 100000 in
set_option maxHeartbeats 4000000 in
theorem km9_wipe {l : Launch} {E : (Nat → Prop) → State → Prop} {D : va_G} {ou : Nat → Nat} {ca : Nat → ClassId} (hE : hg_E E ou) : hg_Met l E D ou ca hy9_wipe prog_1_method_3_code 1 (some .int) 1 pr9_wipe fm9_wipe := by
  refine am_met (B := kb9_wipe) (cuts := []) (nt := 5) (by decide +kernel) rfl rfl (hg_tys_ok ca) ?_ (by decide) rl9_wipe ?_ rn9_wipe
  · exact fun t ht => List.mem_cons_of_mem _ (hg_arr t ht)
  · intro a w hp ad p e R s m args below meth c hR X hEs hnm
    have hR1 : 1 ≤ R.frames ∧ 40 ≤ R.locals := by rw [hR]; exact ⟨Nat.le_refl _, Nat.le_refl _⟩
    have hN := hE.2.1 _ _ hEs
    refine ⟨kd9_wipe_ok, fun index ci fi mode hq => kf9_ok X.2.2.2.2.1 hN.1 (index, ci, fi, mode) (am_as_mem hq), fun index ci fs hq => (am_no hq).elim, fun x v hq => (am_no hq).elim, ?_, fun o t n f hq => (am_no hq).elim, rfl, rfl, by rw [hR]; exact Nat.le_refl _, by rw [hR]; exact Nat.le_refl _⟩
    intro pc sel n0 pre0 f0 hq
    have hz : ∀ q ∈ ki9_wipe, am_CK p l e R s m args below meth c D hn_cl (va_A (am_w ad ou ca w) s.heap.size) ou ca 1 q.1 q.2.2.1 q.2.2.2.1 q.2.2.2.2 := by
      refine am_allc (am_ck_V (n := 0) X hEs hE.1 (km6_empty hE) (hg_good (gw_mem 298 (by decide +kernel))) rfl (List.mem_cons_of_mem _ (gw_mem 69 (by decide +kernel))) (List.mem_cons_of_mem _ (gw_mem 295 (by decide +kernel))) (List.mem_cons_of_mem _ (gw_mem 296 (by decide +kernel))) (List.mem_cons_of_mem _ (gw_mem 297 (by decide +kernel))) pa6_empty (by decide +kernel) ⟨Nat.le_trans (by decide) hR1.1, Nat.le_trans (by decide) hR1.2⟩ (kd9_wipe_ok (4, .invokevirtual 51, 3) (List.mem_of_getElem? (i := 2) rfl))) (am_all0)
    exact hz _ (am_as_mem hq)
noncomputable def ki9_clear : List (Nat × Option (List Nat) × Nat × (List am_V → List am_C → Prop) × am_M) := [(12, some [3, 4], 1, pr6_empty, fm6_empty)]
noncomputable def kb9_clear : am_B := (kd9_clear, am_as kf9, hn_ty, fun _ => none, fun _ => none, am_as ki9_clear, fun _ => none, 5, 1, (some .int))
noncomputable def fn9_clear (r : qt6) (t : qt6) (m : qt2) (y : qt0) (x : qt5) (c : qt1) (u : qt6) : Int32 × qt6 × qt0 := Classical.choose (⟨_, rfl⟩ : ∃ z : Int32 × qt6 × qt0, z = ((fn6_empty 240 t).1, (fn6_empty 240 t).2, (qu0_compiled y (0 : Int32))))
theorem fq9_clear (r : qt6) (t : qt6) (m : qt2) (y : qt0) (x : qt5) (c : qt1) (u : qt6) : fn9_clear r t m y x c u = ((fn6_empty 240 t).1, (fn6_empty 240 t).2, (qu0_compiled y (0 : Int32))) := Classical.choose_spec (⟨_, rfl⟩ : ∃ z : Int32 × qt6 × qt0, z = ((fn6_empty 240 t).1, (fn6_empty 240 t).2, (qu0_compiled y (0 : Int32))))
def wp9_clear (r : qt6) (t : qt6) (m : qt2) (y : qt0) (x : qt5) (c : qt1) (u : qt6) : Prop := (wp6_empty 240 t)
set_option maxRecDepth 100000 in
set_option maxHeartbeats 4000000 in
theorem re9_clear (r : qt6) (t : qt6) (m : qt2) (y : qt0) (x : qt5) (c : qt1) (u : qt6) (hp : wp9_clear r t m y x c u) : am_lf (am_mk kb9_clear 0 0 27) [] (0, am_L0 [.inr (.inl 0)] 1, [], (kw_H r t m y x c u), 0, 0) = some (some (.inl ((fn9_clear r t m y x c u).1)), (kw_H r ((fn9_clear r t m y x c u).2.1) m ((fn9_clear r t m y x c u).2.2) x c u)) := by
  unfold wp9_clear at hp
  refine am_lf_eq ?_
  generalize am_lf (am_mk kb9_clear 0 0 27) [] = kt
  refine am_sp (w' := (kw_H r t m (qu0_compiled y (0 : Int32)) x c u)) (kp_H_4_compiled r t m y x c u (0 : Int32)) ?_
  refine am_cy (pre := pr6_empty) (f := fm6_empty) (a' := [.inr (.inl 0)]) (wc := (kw_T 240 t)) (w' := (kw_H r ((fn6_empty 240 t).2) m (qu0_compiled y (0 : Int32)) x c u)) (r := (some (.inl ((fn6_empty 240 t).1)), (kw_T 240 ((fn6_empty 240 t).2)), 0, 0)) ?_ ?_ ?_ ?_ ?_ ?_ ?_ ?_ ?_ ?_
  · exact ks_H_T_2_o r t m (qu0_compiled y (0 : Int32)) x c u
  · rfl
  · rfl
  · exact ks_H_T_2_s r t m (qu0_compiled y (0 : Int32)) x c u
  · exact ⟨240, t, rfl, rfl, hp⟩
  · exact fe6_empty 240 t
  · exact kwl_T 240 ((fn6_empty 240 t).2)
  · rfl
  · exact ks_H_T_2_m r t m (qu0_compiled y (0 : Int32)) x c u ((fn6_empty 240 t).2)
  have e : fn9_clear r t m y x c u = ((fn6_empty 240 t).1, (fn6_empty 240 t).2, (qu0_compiled y (0 : Int32))) := by
    rw [fq9_clear]
  rw [e] <;> rfl
abbrev pr9_clear : List am_V → List am_C → Prop := fun a w => ∃ (r : qt6) (t : qt6) (m : qt2) (y : qt0) (x : qt5) (c : qt1) (u : qt6), a = [.inr (.inl 0)] ∧ w = (kw_H r t m y x c u) ∧ wp9_clear r t m y x c u
noncomputable def fm9_clear : am_M := fun a w => (fun (z : Int32 × qt6 × qt0) => (some (.inl (z.1)), (kw_H (qs6 w 1) (z.2.1) (qs2 w 5) (z.2.2) (qs5 w 15) (qs1 w 23) (qs6 w 25)), 0, 0)) (fn9_clear (qs6 w 1) (qs6 w 3) (qs2 w 5) (qs0 w 10) (qs5 w 15) (qs1 w 23) (qs6 w 25))
theorem fe9_clear (r : qt6) (t : qt6) (m : qt2) (y : qt0) (x : qt5) (c : qt1) (u : qt6) : fm9_clear [.inr (.inl 0)] (kw_H r t m y x c u) = (some (.inl ((fn9_clear r t m y x c u).1)), (kw_H r ((fn9_clear r t m y x c u).2.1) m ((fn9_clear r t m y x c u).2.2) x c u), 0, 0) := rfl
set_option maxRecDepth 100000 in
set_option maxHeartbeats 4000000 in
theorem rn9_clear : ∀ (a : List am_V) (w : List am_C), pr9_clear a w → ∃ nq, am_ev (am_mk kb9_clear (fm9_clear a w).2.2.1 (fm9_clear a w).2.2.2 w.length) [] nq (0, am_L0 a 1, [], w, 0, 0) = some ((fm9_clear a w).1, (fm9_clear a w).2.1) := by
  rintro a w ⟨r, t, m, y, x, c, u, rfl, rfl, hp⟩
  rw [fe9_clear r t m y x c u]
  exact am_lf_ev (re9_clear r t m y x c u hp)
theorem rl9_clear : ∀ (a : List am_V) (w : List am_C), pr9_clear a w → a.length ≤ 1 := by
  rintro a w ⟨r, t, m, y, x, c, u, rfl, rfl, hp⟩
  exact Nat.le_of_ble_eq_true rfl
theorem pa9_clear : ∀ a w, pr9_clear a w → ∃ q a' ci fs r, a = .inr (.inl q) :: a' ∧ w[q]? = some (.inr (ci, fs)) ∧ hn_cl[ci]? = some r ∧ r.1 = hn_R9 := by
  rintro a w ⟨r, t, m, y, x, c, u, rfl, rfl, hp⟩
  exact ⟨0, _, 9, _, _, rfl, rfl, rfl, rfl⟩
set_option maxRecDepth 100000 in
set_option maxHeartbeats 4000000 in
theorem km9_clear {l : Launch} {E : (Nat → Prop) → State → Prop} {D : va_G} {ou : Nat → Nat} {ca : Nat → ClassId} (hE : hg_E E ou) : hg_Met l E D ou ca hy9_clear prog_1_method_5_code 1 (some .int) 1 pr9_clear fm9_clear := by
  refine am_met (B := kb9_clear) (cuts := []) (nt := 5) (by decide +kernel) rfl rfl (hg_tys_ok ca) ?_ (by decide) rl9_clear ?_ rn9_clear
  · exact fun t ht => List.mem_cons_of_mem _ (hg_arr t ht)
  · intro a w hp ad p e R s m args below meth c hR X hEs hnm
    have hR1 : 1 ≤ R.frames ∧ 40 ≤ R.locals := by rw [hR]; exact ⟨Nat.le_refl _, Nat.le_refl _⟩
    have hN := hE.2.1 _ _ hEs
    refine ⟨kd9_clear_ok, fun index ci fi mode hq => kf9_ok X.2.2.2.2.1 hN.1 (index, ci, fi, mode) (am_as_mem hq), fun index ci fs hq => (am_no hq).elim, fun x v hq => (am_no hq).elim, ?_, fun o t n f hq => (am_no hq).elim, rfl, rfl, by rw [hR]; exact Nat.le_refl _, by rw [hR]; exact Nat.le_refl _⟩
    intro pc sel n0 pre0 f0 hq
    have hz : ∀ q ∈ ki9_clear, am_CK p l e R s m args below meth c D hn_cl (va_A (am_w ad ou ca w) s.heap.size) ou ca 1 q.1 q.2.2.1 q.2.2.2.1 q.2.2.2.2 := by
      refine am_allc (am_ck_V (n := 0) X hEs hE.1 (km6_empty hE) (hg_good (gw_mem 298 (by decide +kernel))) rfl (List.mem_cons_of_mem _ (gw_mem 69 (by decide +kernel))) (List.mem_cons_of_mem _ (gw_mem 295 (by decide +kernel))) (List.mem_cons_of_mem _ (gw_mem 296 (by decide +kernel))) (List.mem_cons_of_mem _ (gw_mem 297 (by decide +kernel))) pa6_empty (by decide +kernel) ⟨Nat.le_trans (by decide) hR1.1, Nat.le_trans (by decide) hR1.2⟩ (kd9_clear_ok (12, .invokevirtual 51, 3) (List.mem_of_getElem? (i := 6) rfl))) (am_all0)
    exact hz _ (am_as_mem hq)
noncomputable def ki9_accepts : List (Nat × Option (List Nat) × Nat × (List am_V → List am_C → Prop) × am_M) := [(8, some [10, 11, 12, 13, 14, 15, 16, 17, 18, 19, 20, 21, 22, 23, 3, 4], 2, pr0_reads, fm0_reads)]
noncomputable def kb9_accepts : am_B := (kd9_accepts, am_as kf9, hn_ty, fun _ => none, fun _ => none, am_as ki9_accepts, fun _ => none, 5, 1, (some .boolean))
noncomputable def fn9_accepts (r : qt6) (t : qt6) (m : qt2) (y : qt0) (x : qt5) (c : qt1) (u : qt6) : Int32 × qt0 × qt5 × qt1 := Classical.choose (⟨_, rfl⟩ : ∃ z : Int32 × qt0 × qt5 × qt1, z = ((fn0_reads y x c t).1, (fn0_reads y x c t).2.1, (fn0_reads y x c t).2.2.1, (fn0_reads y x c t).2.2.2))
theorem fq9_accepts (r : qt6) (t : qt6) (m : qt2) (y : qt0) (x : qt5) (c : qt1) (u : qt6) : fn9_accepts r t m y x c u = ((fn0_reads y x c t).1, (fn0_reads y x c t).2.1, (fn0_reads y x c t).2.2.1, (fn0_reads y x c t).2.2.2) := Classical.choose_spec (⟨_, rfl⟩ : ∃ z : Int32 × qt0 × qt5 × qt1, z = ((fn0_reads y x c t).1, (fn0_reads y x c t).2.1, (fn0_reads y x c t).2.2.1, (fn0_reads y x c t).2.2.2))
def wp9_accepts (r : qt6) (t : qt6) (m : qt2) (y : qt0) (x : qt5) (c : qt1) (u : qt6) : Prop := ((wp0_reads y x c t) ∧ (am_fit .boolean (.inl (fn0_reads y x c t).1) = true))
set_option maxRecDepth 100000 in
set_option maxHeartbeats 4000000 in
theorem re9_accepts (r : qt6) (t : qt6) (m : qt2) (y : qt0) (x : qt5) (c : qt1) (u : qt6) (hp : wp9_accepts r t m y x c u) : am_lf (am_mk kb9_accepts 0 0 27) [] (0, am_L0 [.inr (.inl 0)] 1, [], (kw_H r t m y x c u), 0, 0) = some (some (.inl ((fn9_accepts r t m y x c u).1)), (kw_H r t m ((fn9_accepts r t m y x c u).2.1) ((fn9_accepts r t m y x c u).2.2.1) ((fn9_accepts r t m y x c u).2.2.2) u)) := by
  unfold wp9_accepts at hp
  refine am_lf_eq ?_
  generalize am_lf (am_mk kb9_accepts 0 0 27) [] = kt
  refine am_cy (pre := pr0_reads) (f := fm0_reads) (a' := [.inr (.inl 0), .inr (.inl 14)]) (wc := (kw_PT y x c t)) (w' := (kw_H r t m ((fn0_reads y x c t).2.1) ((fn0_reads y x c t).2.2.1) ((fn0_reads y x c t).2.2.2) u)) (r := (some (.inl ((fn0_reads y x c t).1)), (kw_PT ((fn0_reads y x c t).2.1) ((fn0_reads y x c t).2.2.1) ((fn0_reads y x c t).2.2.2) t), 0, 0)) ?_ ?_ ?_ ?_ ?_ ?_ ?_ ?_ ?_ ?_
  · exact ks_H_PT_4_5_6_2_o r t m y x c u
  · rfl
  · rfl
  · exact ks_H_PT_4_5_6_2_s r t m y x c u
  · exact ⟨y, x, c, t, rfl, rfl, hp.1⟩
  · exact fe0_reads y x c t
  · exact kwl_PT ((fn0_reads y x c t).2.1) ((fn0_reads y x c t).2.2.1) ((fn0_reads y x c t).2.2.2) t
  · rfl
  · exact ks_H_PT_4_5_6_2_m r t m y x c u ((fn0_reads y x c t).2.1) ((fn0_reads y x c t).2.2.1) ((fn0_reads y x c t).2.2.2) t
  refine am_ci (c := am_fit .boolean (.inl (fn0_reads y x c t).1) = true) hp.2 ?_
  have e : fn9_accepts r t m y x c u = ((fn0_reads y x c t).1, (fn0_reads y x c t).2.1, (fn0_reads y x c t).2.2.1, (fn0_reads y x c t).2.2.2) := by
    rw [fq9_accepts]
  rw [e] <;> rfl
abbrev pr9_accepts : List am_V → List am_C → Prop := fun a w => ∃ (r : qt6) (t : qt6) (m : qt2) (y : qt0) (x : qt5) (c : qt1) (u : qt6), a = [.inr (.inl 0)] ∧ w = (kw_H r t m y x c u) ∧ wp9_accepts r t m y x c u
noncomputable def fm9_accepts : am_M := fun a w => (fun (z : Int32 × qt0 × qt5 × qt1) => (some (.inl (z.1)), (kw_H (qs6 w 1) (qs6 w 3) (qs2 w 5) (z.2.1) (z.2.2.1) (z.2.2.2) (qs6 w 25)), 0, 0)) (fn9_accepts (qs6 w 1) (qs6 w 3) (qs2 w 5) (qs0 w 10) (qs5 w 15) (qs1 w 23) (qs6 w 25))
theorem fe9_accepts (r : qt6) (t : qt6) (m : qt2) (y : qt0) (x : qt5) (c : qt1) (u : qt6) : fm9_accepts [.inr (.inl 0)] (kw_H r t m y x c u) = (some (.inl ((fn9_accepts r t m y x c u).1)), (kw_H r t m ((fn9_accepts r t m y x c u).2.1) ((fn9_accepts r t m y x c u).2.2.1) ((fn9_accepts r t m y x c u).2.2.2) u), 0, 0) := rfl
set_option maxRecDepth 100000 in
set_option maxHeartbeats 4000000 in
theorem rn9_accepts : ∀ (a : List am_V) (w : List am_C), pr9_accepts a w → ∃ nq, am_ev (am_mk kb9_accepts (fm9_accepts a w).2.2.1 (fm9_accepts a w).2.2.2 w.length) [] nq (0, am_L0 a 1, [], w, 0, 0) = some ((fm9_accepts a w).1, (fm9_accepts a w).2.1) := by
  rintro a w ⟨r, t, m, y, x, c, u, rfl, rfl, hp⟩
  rw [fe9_accepts r t m y x c u]
  exact am_lf_ev (re9_accepts r t m y x c u hp)
theorem rl9_accepts : ∀ (a : List am_V) (w : List am_C), pr9_accepts a w → a.length ≤ 1 := by
  rintro a w ⟨r, t, m, y, x, c, u, rfl, rfl, hp⟩
  exact Nat.le_of_ble_eq_true rfl
theorem pa9_accepts : ∀ a w, pr9_accepts a w → ∃ q a' ci fs r, a = .inr (.inl q) :: a' ∧ w[q]? = some (.inr (ci, fs)) ∧ hn_cl[ci]? = some r ∧ r.1 = hn_R9 := by
  rintro a w ⟨r, t, m, y, x, c, u, rfl, rfl, hp⟩
  exact ⟨0, _, 9, _, _, rfl, rfl, rfl, rfl⟩
set_option maxRecDepth 100000 in
set_option maxHeartbeats 4000000 in
theorem km9_accepts {l : Launch} {E : (Nat → Prop) → State → Prop} {D : va_G} {ou : Nat → Nat} {ca : Nat → ClassId} (hE : hg_E E ou) : hg_Met l E D ou ca hy9_accepts prog_1_method_7_code 1 (some .boolean) 10 pr9_accepts fm9_accepts := by
  refine am_met (B := kb9_accepts) (cuts := []) (nt := 5) (by decide +kernel) rfl rfl (hg_tys_ok ca) ?_ (by decide) rl9_accepts ?_ rn9_accepts
  · exact fun t ht => List.mem_cons_of_mem _ (hg_arr t ht)
  · intro a w hp ad p e R s m args below meth c hR X hEs hnm
    have hR1 : 10 ≤ R.frames ∧ 400 ≤ R.locals := by rw [hR]; exact ⟨Nat.le_refl _, Nat.le_refl _⟩
    have hN := hE.2.1 _ _ hEs
    refine ⟨kd9_accepts_ok, fun index ci fi mode hq => kf9_ok X.2.2.2.2.1 hN.1 (index, ci, fi, mode) (am_as_mem hq), fun index ci fs hq => (am_no hq).elim, fun x v hq => (am_no hq).elim, ?_, fun o t n f hq => (am_no hq).elim, rfl, rfl, by rw [hR]; exact Nat.le_refl _, by rw [hR]; exact Nat.le_refl _⟩
    intro pc sel n0 pre0 f0 hq
    have hz : ∀ q ∈ ki9_accepts, am_CK p l e R s m args below meth c D hn_cl (va_A (am_w ad ou ca w) s.heap.size) ou ca 1 q.1 q.2.2.1 q.2.2.2.1 q.2.2.2.2 := by
      refine am_allc (am_ck_V (n := 1) X hEs hE.1 (km0_reads hE) (hg_good (gw_mem 310 (by decide +kernel))) rfl (List.mem_cons_of_mem _ (gw_mem 72 (by decide +kernel))) (List.mem_cons_of_mem _ (gw_mem 307 (by decide +kernel))) (List.mem_cons_of_mem _ (gw_mem 308 (by decide +kernel))) (List.mem_cons_of_mem _ (gw_mem 309 (by decide +kernel))) pa0_reads (by decide +kernel) ⟨Nat.le_trans (by decide) hR1.1, Nat.le_trans (by decide) hR1.2⟩ (kd9_accepts_ok (8, .invokevirtual 74, 3) (List.mem_of_getElem? (i := 4) rfl))) (am_all0)
    exact hz _ (am_as_mem hq)
noncomputable def ki9_fault : List (Nat × Option (List Nat) × Nat × (List am_V → List am_C → Prop) × am_M) := []
noncomputable def kb9_fault : am_B := (kd9_fault, am_as kf9, hn_ty, fun _ => none, fun _ => none, am_as ki9_fault, fun _ => none, 5, 1, (some .int))
noncomputable def fn9_fault (r : qt6) (t : qt6) (m : qt2) (y : qt0) (x : qt5) (c : qt1) (u : qt6) : Int32 := Classical.choose (⟨_, rfl⟩ : ∃ z : Int32, z = (qg0_faultPlace y))
theorem fq9_fault (r : qt6) (t : qt6) (m : qt2) (y : qt0) (x : qt5) (c : qt1) (u : qt6) : fn9_fault r t m y x c u = (qg0_faultPlace y) := Classical.choose_spec (⟨_, rfl⟩ : ∃ z : Int32, z = (qg0_faultPlace y))
def wp9_fault (r : qt6) (t : qt6) (m : qt2) (y : qt0) (x : qt5) (c : qt1) (u : qt6) : Prop := True
set_option maxRecDepth 100000 in
set_option maxHeartbeats 4000000 in
theorem re9_fault (r : qt6) (t : qt6) (m : qt2) (y : qt0) (x : qt5) (c : qt1) (u : qt6) (hp : wp9_fault r t m y x c u) : am_lf (am_mk kb9_fault 0 0 27) [] (0, am_L0 [.inr (.inl 0)] 1, [], (kw_H r t m y x c u), 0, 0) = some (some (.inl (fn9_fault r t m y x c u)), (kw_H r t m y x c u)) := by
  unfold wp9_fault at hp
  refine am_lf_eq ?_
  generalize am_lf (am_mk kb9_fault 0 0 27) [] = kt
  have e : fn9_fault r t m y x c u = (qg0_faultPlace y) := by
    rw [fq9_fault]
  rw [e] <;> rfl
abbrev pr9_fault : List am_V → List am_C → Prop := fun a w => ∃ (r : qt6) (t : qt6) (m : qt2) (y : qt0) (x : qt5) (c : qt1) (u : qt6), a = [.inr (.inl 0)] ∧ w = (kw_H r t m y x c u) ∧ wp9_fault r t m y x c u
noncomputable def fm9_fault : am_M := fun a w => (fun (z : Int32) => (some (.inl z), (kw_H (qs6 w 1) (qs6 w 3) (qs2 w 5) (qs0 w 10) (qs5 w 15) (qs1 w 23) (qs6 w 25)), 0, 0)) (fn9_fault (qs6 w 1) (qs6 w 3) (qs2 w 5) (qs0 w 10) (qs5 w 15) (qs1 w 23) (qs6 w 25))
theorem fe9_fault (r : qt6) (t : qt6) (m : qt2) (y : qt0) (x : qt5) (c : qt1) (u : qt6) : fm9_fault [.inr (.inl 0)] (kw_H r t m y x c u) = (some (.inl (fn9_fault r t m y x c u)), (kw_H r t m y x c u), 0, 0) := rfl
set_option maxRecDepth 100000 in
set_option maxHeartbeats 4000000 in
theorem rn9_fault : ∀ (a : List am_V) (w : List am_C), pr9_fault a w → ∃ nq, am_ev (am_mk kb9_fault (fm9_fault a w).2.2.1 (fm9_fault a w).2.2.2 w.length) [] nq (0, am_L0 a 1, [], w, 0, 0) = some ((fm9_fault a w).1, (fm9_fault a w).2.1) := by
  rintro a w ⟨r, t, m, y, x, c, u, rfl, rfl, hp⟩
  rw [fe9_fault r t m y x c u]
  exact am_lf_ev (re9_fault r t m y x c u hp)
theorem rl9_fault : ∀ (a : List am_V) (w : List am_C), pr9_fault a w → a.length ≤ 1 := by
  rintro a w ⟨r, t, m, y, x, c, u, rfl, rfl, hp⟩
  exact Nat.le_of_ble_eq_true rfl
theorem pa9_fault : ∀ a w, pr9_fault a w → ∃ q a' ci fs r, a = .inr (.inl q) :: a' ∧ w[q]? = some (.inr (ci, fs)) ∧ hn_cl[ci]? = some r ∧ r.1 = hn_R9 := by
  rintro a w ⟨r, t, m, y, x, c, u, rfl, rfl, hp⟩
  exact ⟨0, _, 9, _, _, rfl, rfl, rfl, rfl⟩
set_option maxRecDepth 100000 in
set_option maxHeartbeats 4000000 in
theorem km9_fault {l : Launch} {E : (Nat → Prop) → State → Prop} {D : va_G} {ou : Nat → Nat} {ca : Nat → ClassId} (hE : hg_E E ou) : hg_Met l E D ou ca hy9_fault prog_1_method_8_code 1 (some .int) 0 pr9_fault fm9_fault := by
  refine am_met (B := kb9_fault) (cuts := []) (nt := 5) (by decide +kernel) rfl rfl (hg_tys_ok ca) ?_ (by decide) rl9_fault ?_ rn9_fault
  · exact fun t ht => List.mem_cons_of_mem _ (hg_arr t ht)
  · intro a w hp ad p e R s m args below meth c hR X hEs hnm
    have hR1 : 0 ≤ R.frames ∧ 0 ≤ R.locals := by rw [hR]; exact ⟨Nat.le_refl _, Nat.le_refl _⟩
    have hN := hE.2.1 _ _ hEs
    refine ⟨kd9_fault_ok, fun index ci fi mode hq => kf9_ok X.2.2.2.2.1 hN.1 (index, ci, fi, mode) (am_as_mem hq), fun index ci fs hq => (am_no hq).elim, fun x v hq => (am_no hq).elim, ?_, fun o t n f hq => (am_no hq).elim, rfl, rfl, by rw [hR]; exact Nat.le_refl _, by rw [hR]; exact Nat.le_refl _⟩
    intro pc sel n0 pre0 f0 hq
    exact (am_no hq).elim
noncomputable def ki9_hole : List (Nat × Option (List Nat) × Nat × (List am_V → List am_C → Prop) × am_M) := [(5, some [10, 11, 12, 13, 14, 15, 16, 17, 18, 19, 20, 21, 22, 23], 2, pr0_holeCode, fm0_holeCode)]
noncomputable def kb9_hole : am_B := (kd9_hole, am_as kf9, hn_ty, fun _ => none, fun _ => none, am_as ki9_hole, fun _ => none, 5, 2, (some .int))
noncomputable def fn9_hole (r : qt6) (t : qt6) (m : qt2) (y : qt0) (x : qt5) (c : qt1) (u : qt6) (p0 : Int32) : Int32 := Classical.choose (⟨_, rfl⟩ : ∃ z : Int32, z = (fn0_holeCode y x c p0))
theorem fq9_hole (r : qt6) (t : qt6) (m : qt2) (y : qt0) (x : qt5) (c : qt1) (u : qt6) (p0 : Int32) : fn9_hole r t m y x c u p0 = (fn0_holeCode y x c p0) := Classical.choose_spec (⟨_, rfl⟩ : ∃ z : Int32, z = (fn0_holeCode y x c p0))
def wp9_hole (r : qt6) (t : qt6) (m : qt2) (y : qt0) (x : qt5) (c : qt1) (u : qt6) (p0 : Int32) : Prop := (wp0_holeCode y x c p0)
set_option maxRecDepth 100000 in
set_option maxHeartbeats 4000000 in
theorem re9_hole (r : qt6) (t : qt6) (m : qt2) (y : qt0) (x : qt5) (c : qt1) (u : qt6) (p0 : Int32) (hp : wp9_hole r t m y x c u p0) : am_lf (am_mk kb9_hole 0 0 27) [] (0, am_L0 [.inr (.inl 0), .inl p0] 2, [], (kw_H r t m y x c u), 0, 0) = some (some (.inl (fn9_hole r t m y x c u p0)), (kw_H r t m y x c u)) := by
  unfold wp9_hole at hp
  refine am_lf_eq ?_
  generalize am_lf (am_mk kb9_hole 0 0 27) [] = kt
  refine am_cy (pre := pr0_holeCode) (f := fm0_holeCode) (a' := [.inr (.inl 0), .inl p0]) (wc := (kw_P y x c)) (w' := (kw_H r t m y x c u)) (r := (some (.inl (fn0_holeCode y x c p0)), (kw_P y x c), 0, 0)) ?_ ?_ ?_ ?_ ?_ ?_ ?_ ?_ ?_ ?_
  · exact ks_H_P_4_5_6_o r t m y x c u
  · rfl
  · rfl
  · exact ks_H_P_4_5_6_s r t m y x c u
  · exact ⟨y, x, c, p0, rfl, rfl, hp⟩
  · exact fe0_holeCode y x c p0
  · exact kwl_P y x c
  · rfl
  · exact ks_H_P_4_5_6_m r t m y x c u y x c
  have e : fn9_hole r t m y x c u p0 = (fn0_holeCode y x c p0) := by
    rw [fq9_hole]
  rw [e] <;> rfl
abbrev pr9_hole : List am_V → List am_C → Prop := fun a w => ∃ (r : qt6) (t : qt6) (m : qt2) (y : qt0) (x : qt5) (c : qt1) (u : qt6) (p0 : Int32), a = [.inr (.inl 0), .inl p0] ∧ w = (kw_H r t m y x c u) ∧ wp9_hole r t m y x c u p0
noncomputable def fm9_hole : am_M := fun a w => (fun (z : Int32) => (some (.inl z), (kw_H (qs6 w 1) (qs6 w 3) (qs2 w 5) (qs0 w 10) (qs5 w 15) (qs1 w 23) (qs6 w 25)), 0, 0)) (fn9_hole (qs6 w 1) (qs6 w 3) (qs2 w 5) (qs0 w 10) (qs5 w 15) (qs1 w 23) (qs6 w 25) (am_i (am_an a 1)))
theorem fe9_hole (r : qt6) (t : qt6) (m : qt2) (y : qt0) (x : qt5) (c : qt1) (u : qt6) (p0 : Int32) : fm9_hole [.inr (.inl 0), .inl p0] (kw_H r t m y x c u) = (some (.inl (fn9_hole r t m y x c u p0)), (kw_H r t m y x c u), 0, 0) := rfl
set_option maxRecDepth 100000 in
set_option maxHeartbeats 4000000 in
theorem rn9_hole : ∀ (a : List am_V) (w : List am_C), pr9_hole a w → ∃ nq, am_ev (am_mk kb9_hole (fm9_hole a w).2.2.1 (fm9_hole a w).2.2.2 w.length) [] nq (0, am_L0 a 2, [], w, 0, 0) = some ((fm9_hole a w).1, (fm9_hole a w).2.1) := by
  rintro a w ⟨r, t, m, y, x, c, u, p0, rfl, rfl, hp⟩
  rw [fe9_hole r t m y x c u p0]
  exact am_lf_ev (re9_hole r t m y x c u p0 hp)
theorem rl9_hole : ∀ (a : List am_V) (w : List am_C), pr9_hole a w → a.length ≤ 2 := by
  rintro a w ⟨r, t, m, y, x, c, u, p0, rfl, rfl, hp⟩
  exact Nat.le_of_ble_eq_true rfl
theorem pa9_hole : ∀ a w, pr9_hole a w → ∃ q a' ci fs r, a = .inr (.inl q) :: a' ∧ w[q]? = some (.inr (ci, fs)) ∧ hn_cl[ci]? = some r ∧ r.1 = hn_R9 := by
  rintro a w ⟨r, t, m, y, x, c, u, p0, rfl, rfl, hp⟩
  exact ⟨0, _, 9, _, _, rfl, rfl, rfl, rfl⟩
set_option maxRecDepth 100000 in
set_option maxHeartbeats 4000000 in
theorem km9_hole {l : Launch} {E : (Nat → Prop) → State → Prop} {D : va_G} {ou : Nat → Nat} {ca : Nat → ClassId} (hE : hg_E E ou) : hg_Met l E D ou ca hy9_hole prog_1_method_9_code 2 (some .int) 1 pr9_hole fm9_hole := by
  refine am_met (B := kb9_hole) (cuts := []) (nt := 5) (by decide +kernel) rfl rfl (hg_tys_ok ca) ?_ (by decide) rl9_hole ?_ rn9_hole
  · exact fun t ht => List.mem_cons_of_mem _ (hg_arr t ht)
  · intro a w hp ad p e R s m args below meth c hR X hEs hnm
    have hR1 : 1 ≤ R.frames ∧ 40 ≤ R.locals := by rw [hR]; exact ⟨Nat.le_refl _, Nat.le_refl _⟩
    have hN := hE.2.1 _ _ hEs
    refine ⟨kd9_hole_ok, fun index ci fi mode hq => kf9_ok X.2.2.2.2.1 hN.1 (index, ci, fi, mode) (am_as_mem hq), fun index ci fs hq => (am_no hq).elim, fun x v hq => (am_no hq).elim, ?_, fun o t n f hq => (am_no hq).elim, rfl, rfl, by rw [hR]; exact Nat.le_refl _, by rw [hR]; exact Nat.le_refl _⟩
    intro pc sel n0 pre0 f0 hq
    have hz : ∀ q ∈ ki9_hole, am_CK p l e R s m args below meth c D hn_cl (va_A (am_w ad ou ca w) s.heap.size) ou ca 2 q.1 q.2.2.1 q.2.2.2.1 q.2.2.2.2 := by
      refine am_allc (am_ck_V (n := 1) X hEs hE.1 (km0_holeCode hE) (hg_good (gw_mem 579 (by decide +kernel))) rfl (List.mem_cons_of_mem _ (gw_mem 72 (by decide +kernel))) (List.mem_cons_of_mem _ (gw_mem 576 (by decide +kernel))) (List.mem_cons_of_mem _ (gw_mem 577 (by decide +kernel))) (List.mem_cons_of_mem _ (gw_mem 578 (by decide +kernel))) pa0_holeCode (by decide +kernel) ⟨Nat.le_trans (by decide) hR1.1, Nat.le_trans (by decide) hR1.2⟩ (kd9_hole_ok (5, .invokevirtual 89, 3) (List.mem_of_getElem? (i := 3) rfl))) (am_all0)
    exact hz _ (am_as_mem hq)
noncomputable def ki9_written : List (Nat × Option (List Nat) × Nat × (List am_V → List am_C → Prop) × am_M) := []
noncomputable def kb9_written : am_B := (kd9_written, am_as kf9, hn_ty, fun _ => none, fun _ => none, am_as ki9_written, fun _ => none, 5, 1, (some .int))
noncomputable def fn9_written (r : qt6) (t : qt6) (m : qt2) (y : qt0) (x : qt5) (c : qt1) (u : qt6) : Int32 := Classical.choose (⟨_, rfl⟩ : ∃ z : Int32, z = (qg6_length u))
theorem fq9_written (r : qt6) (t : qt6) (m : qt2) (y : qt0) (x : qt5) (c : qt1) (u : qt6) : fn9_written r t m y x c u = (qg6_length u) := Classical.choose_spec (⟨_, rfl⟩ : ∃ z : Int32, z = (qg6_length u))
def wp9_written (r : qt6) (t : qt6) (m : qt2) (y : qt0) (x : qt5) (c : qt1) (u : qt6) : Prop := True
set_option maxRecDepth 100000 in
set_option maxHeartbeats 4000000 in
theorem re9_written (r : qt6) (t : qt6) (m : qt2) (y : qt0) (x : qt5) (c : qt1) (u : qt6) (hp : wp9_written r t m y x c u) : am_lf (am_mk kb9_written 0 0 27) [] (0, am_L0 [.inr (.inl 0)] 1, [], (kw_H r t m y x c u), 0, 0) = some (some (.inl (fn9_written r t m y x c u)), (kw_H r t m y x c u)) := by
  unfold wp9_written at hp
  refine am_lf_eq ?_
  generalize am_lf (am_mk kb9_written 0 0 27) [] = kt
  have e : fn9_written r t m y x c u = (qg6_length u) := by
    rw [fq9_written]
  rw [e] <;> rfl
abbrev pr9_written : List am_V → List am_C → Prop := fun a w => ∃ (r : qt6) (t : qt6) (m : qt2) (y : qt0) (x : qt5) (c : qt1) (u : qt6), a = [.inr (.inl 0)] ∧ w = (kw_H r t m y x c u) ∧ wp9_written r t m y x c u
noncomputable def fm9_written : am_M := fun a w => (fun (z : Int32) => (some (.inl z), (kw_H (qs6 w 1) (qs6 w 3) (qs2 w 5) (qs0 w 10) (qs5 w 15) (qs1 w 23) (qs6 w 25)), 0, 0)) (fn9_written (qs6 w 1) (qs6 w 3) (qs2 w 5) (qs0 w 10) (qs5 w 15) (qs1 w 23) (qs6 w 25))
theorem fe9_written (r : qt6) (t : qt6) (m : qt2) (y : qt0) (x : qt5) (c : qt1) (u : qt6) : fm9_written [.inr (.inl 0)] (kw_H r t m y x c u) = (some (.inl (fn9_written r t m y x c u)), (kw_H r t m y x c u), 0, 0) := rfl
set_option maxRecDepth 100000 in
set_option maxHeartbeats 4000000 in
theorem rn9_written : ∀ (a : List am_V) (w : List am_C), pr9_written a w → ∃ nq, am_ev (am_mk kb9_written (fm9_written a w).2.2.1 (fm9_written a w).2.2.2 w.length) [] nq (0, am_L0 a 1, [], w, 0, 0) = some ((fm9_written a w).1, (fm9_written a w).2.1) := by
  rintro a w ⟨r, t, m, y, x, c, u, rfl, rfl, hp⟩
  rw [fe9_written r t m y x c u]
  exact am_lf_ev (re9_written r t m y x c u hp)
theorem rl9_written : ∀ (a : List am_V) (w : List am_C), pr9_written a w → a.length ≤ 1 := by
  rintro a w ⟨r, t, m, y, x, c, u, rfl, rfl, hp⟩
  exact Nat.le_of_ble_eq_true rfl
theorem pa9_written : ∀ a w, pr9_written a w → ∃ q a' ci fs r, a = .inr (.inl q) :: a' ∧ w[q]? = some (.inr (ci, fs)) ∧ hn_cl[ci]? = some r ∧ r.1 = hn_R9 := by
  rintro a w ⟨r, t, m, y, x, c, u, rfl, rfl, hp⟩
  exact ⟨0, _, 9, _, _, rfl, rfl, rfl, rfl⟩
set_option maxRecDepth 100000 in
set_option maxHeartbeats 4000000 in
theorem km9_written {l : Launch} {E : (Nat → Prop) → State → Prop} {D : va_G} {ou : Nat → Nat} {ca : Nat → ClassId} (hE : hg_E E ou) : hg_Met l E D ou ca hy9_written prog_1_method_13_code 1 (some .int) 0 pr9_written fm9_written := by
  refine am_met (B := kb9_written) (cuts := []) (nt := 5) (by decide +kernel) rfl rfl (hg_tys_ok ca) ?_ (by decide) rl9_written ?_ rn9_written
  · exact fun t ht => List.mem_cons_of_mem _ (hg_arr t ht)
  · intro a w hp ad p e R s m args below meth c hR X hEs hnm
    have hR1 : 0 ≤ R.frames ∧ 0 ≤ R.locals := by rw [hR]; exact ⟨Nat.le_refl _, Nat.le_refl _⟩
    have hN := hE.2.1 _ _ hEs
    refine ⟨kd9_written_ok, fun index ci fi mode hq => kf9_ok X.2.2.2.2.1 hN.1 (index, ci, fi, mode) (am_as_mem hq), fun index ci fs hq => (am_no hq).elim, fun x v hq => (am_no hq).elim, ?_, fun o t n f hq => (am_no hq).elim, rfl, rfl, by rw [hR]; exact Nat.le_refl _, by rw [hR]; exact Nat.le_refl _⟩
    intro pc sel n0 pre0 f0 hq
    exact (am_no hq).elim
noncomputable def ki9_letter : List (Nat × Option (List Nat) × Nat × (List am_V → List am_C → Prop) × am_M) := [(8, some [25, 26], 2, pr6_at, fm6_at)]
noncomputable def kb9_letter : am_B := (kd9_letter, am_as kf9, hn_ty, fun _ => none, fun _ => none, am_as ki9_letter, fun _ => none, 5, 2, (some .char))
noncomputable def fn9_letter (r : qt6) (t : qt6) (m : qt2) (y : qt0) (x : qt5) (c : qt1) (u : qt6) (p0 : Int32) : Int32 := Classical.choose (⟨_, rfl⟩ : ∃ z : Int32, z = (fn6_at 1000 u p0))
theorem fq9_letter (r : qt6) (t : qt6) (m : qt2) (y : qt0) (x : qt5) (c : qt1) (u : qt6) (p0 : Int32) : fn9_letter r t m y x c u p0 = (fn6_at 1000 u p0) := Classical.choose_spec (⟨_, rfl⟩ : ∃ z : Int32, z = (fn6_at 1000 u p0))
def wp9_letter (r : qt6) (t : qt6) (m : qt2) (y : qt0) (x : qt5) (c : qt1) (u : qt6) (p0 : Int32) : Prop := ((wp6_at 1000 u p0) ∧ (am_fit .char (.inl (fn6_at 1000 u p0)) = true))
set_option maxRecDepth 100000 in
set_option maxHeartbeats 4000000 in
theorem re9_letter (r : qt6) (t : qt6) (m : qt2) (y : qt0) (x : qt5) (c : qt1) (u : qt6) (p0 : Int32) (hp : wp9_letter r t m y x c u p0) : am_lf (am_mk kb9_letter 0 0 27) [] (0, am_L0 [.inr (.inl 0), .inl p0] 2, [], (kw_H r t m y x c u), 0, 0) = some (some (.inl (fn9_letter r t m y x c u p0)), (kw_H r t m y x c u)) := by
  unfold wp9_letter at hp
  refine am_lf_eq ?_
  generalize am_lf (am_mk kb9_letter 0 0 27) [] = kt
  refine am_cy (pre := pr6_at) (f := fm6_at) (a' := [.inr (.inl 0), .inl p0]) (wc := (kw_T 1000 u)) (w' := (kw_H r t m y x c u)) (r := (some (.inl (fn6_at 1000 u p0)), (kw_T 1000 u), 0, 0)) ?_ ?_ ?_ ?_ ?_ ?_ ?_ ?_ ?_ ?_
  · exact ks_H_T_8_o r t m y x c u
  · rfl
  · rfl
  · exact ks_H_T_8_s r t m y x c u
  · exact ⟨1000, u, p0, rfl, rfl, hp.1⟩
  · exact fe6_at 1000 u p0
  · exact kwl_T 1000 u
  · rfl
  · exact ks_H_T_8_m r t m y x c u u
  refine am_ci (c := am_fit .char (.inl (fn6_at 1000 u p0)) = true) hp.2 ?_
  have e : fn9_letter r t m y x c u p0 = (fn6_at 1000 u p0) := by
    rw [fq9_letter]
  rw [e] <;> rfl
abbrev pr9_letter : List am_V → List am_C → Prop := fun a w => ∃ (r : qt6) (t : qt6) (m : qt2) (y : qt0) (x : qt5) (c : qt1) (u : qt6) (p0 : Int32), a = [.inr (.inl 0), .inl p0] ∧ w = (kw_H r t m y x c u) ∧ wp9_letter r t m y x c u p0
noncomputable def fm9_letter : am_M := fun a w => (fun (z : Int32) => (some (.inl z), (kw_H (qs6 w 1) (qs6 w 3) (qs2 w 5) (qs0 w 10) (qs5 w 15) (qs1 w 23) (qs6 w 25)), 0, 0)) (fn9_letter (qs6 w 1) (qs6 w 3) (qs2 w 5) (qs0 w 10) (qs5 w 15) (qs1 w 23) (qs6 w 25) (am_i (am_an a 1)))
theorem fe9_letter (r : qt6) (t : qt6) (m : qt2) (y : qt0) (x : qt5) (c : qt1) (u : qt6) (p0 : Int32) : fm9_letter [.inr (.inl 0), .inl p0] (kw_H r t m y x c u) = (some (.inl (fn9_letter r t m y x c u p0)), (kw_H r t m y x c u), 0, 0) := rfl
set_option maxRecDepth 100000 in
set_option maxHeartbeats 4000000 in
theorem rn9_letter : ∀ (a : List am_V) (w : List am_C), pr9_letter a w → ∃ nq, am_ev (am_mk kb9_letter (fm9_letter a w).2.2.1 (fm9_letter a w).2.2.2 w.length) [] nq (0, am_L0 a 2, [], w, 0, 0) = some ((fm9_letter a w).1, (fm9_letter a w).2.1) := by
  rintro a w ⟨r, t, m, y, x, c, u, p0, rfl, rfl, hp⟩
  rw [fe9_letter r t m y x c u p0]
  exact am_lf_ev (re9_letter r t m y x c u p0 hp)
theorem rl9_letter : ∀ (a : List am_V) (w : List am_C), pr9_letter a w → a.length ≤ 2 := by
  rintro a w ⟨r, t, m, y, x, c, u, p0, rfl, rfl, hp⟩
  exact Nat.le_of_ble_eq_true rfl
theorem pa9_letter : ∀ a w, pr9_letter a w → ∃ q a' ci fs r, a = .inr (.inl q) :: a' ∧ w[q]? = some (.inr (ci, fs)) ∧ hn_cl[ci]? = some r ∧ r.1 = hn_R9 := by
  rintro a w ⟨r, t, m, y, x, c, u, p0, rfl, rfl, hp⟩
  exact ⟨0, _, 9, _, _, rfl, rfl, rfl, rfl⟩
set_option maxRecDepth 100000 in
set_option maxHeartbeats 4000000 in
theorem km9_letter {l : Launch} {E : (Nat → Prop) → State → Prop} {D : va_G} {ou : Nat → Nat} {ca : Nat → ClassId} (hE : hg_E E ou) : hg_Met l E D ou ca hy9_letter prog_1_method_14_code 2 (some .char) 1 pr9_letter fm9_letter := by
  refine am_met (B := kb9_letter) (cuts := []) (nt := 5) (by decide +kernel) rfl rfl (hg_tys_ok ca) ?_ (by decide) rl9_letter ?_ rn9_letter
  · exact fun t ht => List.mem_cons_of_mem _ (hg_arr t ht)
  · intro a w hp ad p e R s m args below meth c hR X hEs hnm
    have hR1 : 1 ≤ R.frames ∧ 40 ≤ R.locals := by rw [hR]; exact ⟨Nat.le_refl _, Nat.le_refl _⟩
    have hN := hE.2.1 _ _ hEs
    refine ⟨kd9_letter_ok, fun index ci fi mode hq => kf9_ok X.2.2.2.2.1 hN.1 (index, ci, fi, mode) (am_as_mem hq), fun index ci fs hq => (am_no hq).elim, fun x v hq => (am_no hq).elim, ?_, fun o t n f hq => (am_no hq).elim, rfl, rfl, by rw [hR]; exact Nat.le_refl _, by rw [hR]; exact Nat.le_refl _⟩
    intro pc sel n0 pre0 f0 hq
    have hz : ∀ q ∈ ki9_letter, am_CK p l e R s m args below meth c D hn_cl (va_A (am_w ad ou ca w) s.heap.size) ou ca 2 q.1 q.2.2.1 q.2.2.2.1 q.2.2.2.2 := by
      refine am_allc (am_ck_V (n := 1) X hEs hE.1 (km6_at hE) (hg_good (gw_mem 318 (by decide +kernel))) rfl (List.mem_cons_of_mem _ (gw_mem 69 (by decide +kernel))) (List.mem_cons_of_mem _ (gw_mem 588 (by decide +kernel))) (List.mem_cons_of_mem _ (gw_mem 316 (by decide +kernel))) (List.mem_cons_of_mem _ (gw_mem 317 (by decide +kernel))) pa6_at (by decide +kernel) ⟨Nat.le_trans (by decide) hR1.1, Nat.le_trans (by decide) hR1.2⟩ (kd9_letter_ok (8, .invokevirtual 66, 3) (List.mem_of_getElem? (i := 4) rfl))) (am_all0)
    exact hz _ (am_as_mem hq)
