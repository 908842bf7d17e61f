set_option maxRecDepth 100000 in
set_option maxHeartbeats 4000000 in
theorem ks_H_I_3_o (r : qt6) (t : qt6) (m : qt2) (y : qt0) (x : qt5) (c : qt1) (u : qt6) : am_sow (kw_H r t m y x c u) [5, 6, 7, 8, 9] = true := rfl
set_option maxRecDepth 100000 in
set_option maxHeartbeats 4000000 in
theorem ks_H_I_3_s (r : qt6) (t : qt6) (m : qt2) (y : qt0) (x : qt5) (c : qt1) (u : qt6) : am_sub (kw_H r t m y x c u) [5, 6, 7, 8, 9] = (kw_I m) := rfl
set_option maxRecDepth 100000 in
set_option maxHeartbeats 4000000 in
theorem ks_H_I_3_m (r : qt6) (t : qt6) (m : qt2) (y : qt0) (x : qt5) (c : qt1) (u : qt6) (z0 : qt2) : am_mix (kw_H r t m y x c u) [5, 6, 7, 8, 9] (kw_I z0) = (kw_H r t z0 y x c u) := rfl
set_option maxRecDepth 100000 in
set_option maxHeartbeats 4000000 in
theorem ks_H_IT_3_1_o (r : qt6) (t : qt6) (m : qt2) (y : qt0) (x : qt5) (c : qt1) (u : qt6) : am_sow (kw_H r t m y x c u) [5, 6, 7, 8, 9, 1, 2] = true := rfl
set_option maxRecDepth 100000 in
set_option maxHeartbeats 4000000 in
theorem ks_H_IT_3_1_s (r : qt6) (t : qt6) (m : qt2) (y : qt0) (x : qt5) (c : qt1) (u : qt6) : am_sub (kw_H r t m y x c u) [5, 6, 7, 8, 9, 1, 2] = (kw_IT m r) := rfl
set_option maxRecDepth 100000 in
set_option maxHeartbeats 4000000 in
theorem ks_H_IT_3_1_m (r : qt6) (t : qt6) (m : qt2) (y : qt0) (x : qt5) (c : qt1) (u : qt6) (z0 : qt2) (z1 : qt6) : am_mix (kw_H r t m y x c u) [5, 6, 7, 8, 9, 1, 2] (kw_IT z0 z1) = (kw_H z1 t z0 y x c u) := rfl
set_option maxRecDepth 100000 in
set_option maxHeartbeats 4000000 in
theorem ks_H_W_7_8_5_3_o (r : qt6) (t : qt6) (m : qt2) (y : qt0) (x : qt5) (c : qt1) (u : qt6) : am_sow (kw_H r t m y x c u) [24, 25, 26, 15, 16, 17, 18, 19, 20, 21, 22, 5, 6, 7, 8, 9] = true := rfl
set_option maxRecDepth 100000 in
set_option maxHeartbeats 4000000 in
theorem ks_H_W_7_8_5_3_s (r : qt6) (t : qt6) (m : qt2) (y : qt0) (x : qt5) (c : qt1) (u : qt6) : am_sub (kw_H r t m y x c u) [24, 25, 26, 15, 16, 17, 18, 19, 20, 21, 22, 5, 6, 7, 8, 9] = (kw_W u x m) := rfl
set_option maxRecDepth 100000 in
set_option maxHeartbeats 4000000 in
theorem ks_H_W_7_8_5_3_m (r : qt6) (t : qt6) (m : qt2) (y : qt0) (x : qt5) (c : qt1) (u : qt6) (z1 : qt6) (z2 : qt5) (z3 : qt2) : am_mix (kw_H r t m y x c u) [24, 25, 26, 15, 16, 17, 18, 19, 20, 21, 22, 5, 6, 7, 8, 9] (kw_W z1 z2 z3) = (kw_H r t z3 y z2 c z1) := rfl
noncomputable def ki9_add : List (Nat × Option (List Nat) × Nat × (List am_V → List am_C → Prop) × am_M) := [(53, some [1, 2], 2, pr6_at, fm6_at), (56, some [3, 4], 2, pr6_put, fm6_put), (70, some [1, 2], 1, pr6_empty, fm6_empty)]
noncomputable def kb9_add : am_B := (kd9_add, am_as kf9, hn_ty, fun _ => none, fun _ => none, am_as ki9_add, fun _ => none, 5, 2, (some .int))
noncomputable def fn9_add_c33 : Nat → qt6 → qt6 → qt2 → qt0 → qt5 → qt1 → qt6 → Int32 → Int32 × qt6 × qt6 × qt0
  | 0, r, t, _, y, _, _, _, _ => (0, r, t, y)
  | fu + 1, r, t, m, y, x, c, u, v1 => (if (qg6_length r) ≤ v1 then ((qg6_length t), (fn6_empty 40 r).2, t, (qu0_compiled y (0 : Int32))) else (fn9_add_c33 fu r ((fn6_put 240 t (fn6_at 40 r v1)).2) m y x c u (v1 + (1 : Int32))))
def wp9_add_c33 : Nat → qt6 → qt6 → qt2 → qt0 → qt5 → qt1 → qt6 → Int32 → Prop
  | 0, _, _, _, _, _, _, _, _ => False
  | fu + 1, r, t, m, y, x, c, u, v1 => (((qg6_length r) ≤ v1 → (wp6_empty 40 r)) ∧ (¬ (qg6_length r) ≤ v1 → ((wp6_at 40 r v1) ∧ ((wp6_put 240 t (fn6_at 40 r v1)) ∧ (wp9_add_c33 fu r ((fn6_put 240 t (fn6_at 40 r v1)).2) m y x c u (v1 + (1 : Int32)))))))
set_option maxRecDepth 100000 in
set_option maxHeartbeats 4000000 in
theorem rc9_add_33 : ∀ (fu : Nat) (r : qt6) (t : qt6) (m : qt2) (y : qt0) (x : qt5) (c : qt1) (u : qt6) (v1 : Int32) , wp9_add_c33 fu r t m y x c u v1 → am_lf (am_mk kb9_add 0 0 27) [33] (33, [some (.inr (.inl 0)), some (.inl v1)], [], (kw_H r t m y x c u), 0, 0) = some (some (.inl ((fn9_add_c33 fu r t m y x c u v1).1)), (kw_H ((fn9_add_c33 fu r t m y x c u v1).2.1) ((fn9_add_c33 fu r t m y x c u v1).2.2.1) m ((fn9_add_c33 fu r t m y x c u v1).2.2.2) x c u)) := by
  intro fu
  induction fu with
  | zero =>
    intro r t m y x c u v1 hp
    exact hp.elim
  | succ fu ih =>
    intro r t m y x c u v1 hp
    unfold wp9_add_c33 at hp
    refine am_lf_eq ?_
    generalize am_lf (am_mk kb9_add 0 0 27) [33] = kt at ih ⊢
    refine am_if (c := (qg6_length r) ≤ v1) (fun h2 => ?_) (fun h2 => ?_)
    · have q2 := hp.1 h2
      refine am_cy (pre := pr6_empty) (f := fm6_empty) (a' := [.inr (.inl 0)]) (wc := (kw_T 40 r)) (w' := (kw_H ((fn6_empty 40 r).2) t m y x c u)) (r := (some (.inl ((fn6_empty 40 r).1)), (kw_T 40 ((fn6_empty 40 r).2)), 0, 0)) ?_ ?_ ?_ ?_ ?_ ?_ ?_ ?_ ?_ ?_
      · exact ks_H_T_1_o r t m y x c u
      · rfl
      · rfl
      · exact ks_H_T_1_s r t m y x c u
      · exact ⟨40, r, rfl, rfl, q2⟩
      · exact fe6_empty 40 r
      · exact kwl_T 40 ((fn6_empty 40 r).2)
      · rfl
      · exact ks_H_T_1_m r t m y x c u ((fn6_empty 40 r).2)
      refine am_sp (w' := (kw_H ((fn6_empty 40 r).2) t m (qu0_compiled y (0 : Int32)) x c u)) (kp_H_4_compiled ((fn6_empty 40 r).2) t m y x c u (0 : Int32)) ?_
      have e : fn9_add_c33 (fu + 1) r t m y x c u v1 = ((qg6_length t), (fn6_empty 40 r).2, t, (qu0_compiled y (0 : Int32))) := by
        rw [fn9_add_c33]
        rw [if_pos h2]
      rw [e] <;> rfl
    · have q2 := hp.2 h2
      refine am_cy (pre := pr6_at) (f := fm6_at) (a' := [.inr (.inl 0), .inl v1]) (wc := (kw_T 40 r)) (w' := (kw_H r t m y x c u)) (r := (some (.inl (fn6_at 40 r v1)), (kw_T 40 r), 0, 0)) ?_ ?_ ?_ ?_ ?_ ?_ ?_ ?_ ?_ ?_
      · exact ks_H_T_1_o r t m y x c u
      · rfl
      · rfl
      · exact ks_H_T_1_s r t m y x c u
      · exact ⟨40, r, v1, rfl, rfl, q2.1⟩
      · exact fe6_at 40 r v1
      · exact kwl_T 40 r
      · rfl
      · exact ks_H_T_1_m r t m y x c u r
      refine am_cy (pre := pr6_put) (f := fm6_put) (a' := [.inr (.inl 0), .inl (fn6_at 40 r v1)]) (wc := (kw_T 240 t)) (w' := (kw_H r ((fn6_put 240 t (fn6_at 40 r v1)).2) m y x c u)) (r := (some (.inl ((fn6_put 240 t (fn6_at 40 r v1)).1)), (kw_T 240 ((fn6_put 240 t (fn6_at 40 r v1)).2)), 0, 0)) ?_ ?_ ?_ ?_ ?_ ?_ ?_ ?_ ?_ ?_
      · exact ks_H_T_2_o r t m y x c u
      · rfl
      · rfl
      · exact ks_H_T_2_s r t m y x c u
      · exact ⟨240, t, (fn6_at 40 r v1), rfl, rfl, q2.2.1⟩
      · exact fe6_put 240 t (fn6_at 40 r v1)
      · exact kwl_T 240 ((fn6_put 240 t (fn6_at 40 r v1)).2)
      · rfl
      · exact ks_H_T_2_m r t m y x c u ((fn6_put 240 t (fn6_at 40 r v1)).2)
      have e : fn9_add_c33 (fu + 1) r t m y x c u v1 = fn9_add_c33 fu r ((fn6_put 240 t (fn6_at 40 r v1)).2) m y x c u (v1 + (1 : Int32)) := by
        rw [fn9_add_c33]
        rw [if_neg h2]
      rw [e]
      exact ih r ((fn6_put 240 t (fn6_at 40 r v1)).2) m y x c u (v1 + (1 : Int32))  q2.2.2
noncomputable def fn9_add (r : qt6) (t : qt6) (m : qt2) (y : qt0) (x : qt5) (c : qt1) (u : qt6) : Int32 × qt6 × qt6 × qt0 := Classical.choose (⟨_, rfl⟩ : ∃ z : Int32 × qt6 × qt6 × qt0, z = (if ((qg6_length t) + (qg6_length r)) ≤ (240 : Int32) then (fn9_add_c33 hg_fu r t m y x c u (0 : Int32)) else ((0 : Int32), r, t, y)))
theorem fq9_add (r : qt6) (t : qt6) (m : qt2) (y : qt0) (x : qt5) (c : qt1) (u : qt6) : fn9_add r t m y x c u = (if ((qg6_length t) + (qg6_length r)) ≤ (240 : Int32) then (fn9_add_c33 hg_fu r t m y x c u (0 : Int32)) else ((0 : Int32), r, t, y)) := Classical.choose_spec (⟨_, rfl⟩ : ∃ z : Int32 × qt6 × qt6 × qt0, z = (if ((qg6_length t) + (qg6_length r)) ≤ (240 : Int32) then (fn9_add_c33 hg_fu r t m y x c u (0 : Int32)) else ((0 : Int32), r, t, y)))
def wp9_add (r : qt6) (t : qt6) (m : qt2) (y : qt0) (x : qt5) (c : qt1) (u : qt6) : Prop := ((((qg6_length t) + (qg6_length r)) ≤ (240 : Int32) → (wp9_add_c33 hg_fu r t m y x c u (0 : Int32))) ∧ (¬ ((qg6_length t) + (qg6_length r)) ≤ (240 : Int32) → False))
set_option maxRecDepth 100000 in
set_option maxHeartbeats 4000000 in
theorem re9_add (r : qt6) (t : qt6) (m : qt2) (y : qt0) (x : qt5) (c : qt1) (u : qt6) (hp : wp9_add r t m y x c u) : am_lf (am_mk kb9_add 0 0 27) [33] (0, am_L0 [.inr (.inl 0)] 2, [], (kw_H r t m y x c u), 0, 0) = some (some (.inl ((fn9_add r t m y x c u).1)), (kw_H ((fn9_add r t m y x c u).2.1) ((fn9_add r t m y x c u).2.2.1) m ((fn9_add r t m y x c u).2.2.2) x c u)) := by
  unfold wp9_add at hp
  have i33 := @rc9_add_33
  refine am_lf_eq ?_
  generalize am_lf (am_mk kb9_add 0 0 27) [33] = kt at i33 ⊢
  refine am_if (c := ((qg6_length t) + (qg6_length r)) ≤ (240 : Int32)) (fun h1 => ?_) (fun h1 => ?_)
  · have q1 := hp.1 h1
    have e : fn9_add r t m y x c u = fn9_add_c33 hg_fu r t m y x c u (0 : Int32) := by
      rw [fq9_add]
      rw [if_pos h1]
    rw [e]
    exact i33 hg_fu r t m y x c u (0 : Int32)  q1
  · have q1 := hp.2 h1
    exact q1.elim
abbrev pr9_add : List am_V → List am_C → Prop := fun a w => ∃ (r : qt6) (t : qt6) (m : qt2) (y : qt0) (x : qt5) (c : qt1) (u : qt6), a = [.inr (.inl 0)] ∧ w = (kw_H r t m y x c u) ∧ wp9_add r t m y x c u
noncomputable def fm9_add : am_M := fun a w => (fun (z : Int32 × qt6 × qt6 × qt0) => (some (.inl (z.1)), (kw_H (z.2.1) (z.2.2.1) (qs2 w 5) (z.2.2.2) (qs5 w 15) (qs1 w 23) (qs6 w 25)), 0, 0)) (fn9_add (qs6 w 1) (qs6 w 3) (qs2 w 5) (qs0 w 10) (qs5 w 15) (qs1 w 23) (qs6 w 25))
theorem fe9_add (r : qt6) (t : qt6) (m : qt2) (y : qt0) (x : qt5) (c : qt1) (u : qt6) : fm9_add [.inr (.inl 0)] (kw_H r t m y x c u) = (some (.inl ((fn9_add r t m y x c u).1)), (kw_H ((fn9_add r t m y x c u).2.1) ((fn9_add r t m y x c u).2.2.1) m ((fn9_add r t m y x c u).2.2.2) x c u), 0, 0) := rfl
set_option maxRecDepth 100000 in
set_option maxHeartbeats 4000000 in
theorem rn9_add : ∀ (a : List am_V) (w : List am_C), pr9_add a w → ∃ nq, am_ev (am_mk kb9_add (fm9_add a w).2.2.1 (fm9_add a w).2.2.2 w.length) [33] nq (0, am_L0 a 2, [], w, 0, 0) = some ((fm9_add a w).1, (fm9_add a w).2.1) := by
  rintro a w ⟨r, t, m, y, x, c, u, rfl, rfl, hp⟩
  rw [fe9_add r t m y x c u]
  exact am_lf_ev (re9_add r t m y x c u hp)
theorem rl9_add : ∀ (a : List am_V) (w : List am_C), pr9_add a w → a.length ≤ 2 := by
  rintro a w ⟨r, t, m, y, x, c, u, rfl, rfl, hp⟩
  exact Nat.le_of_ble_eq_true rfl
theorem pa9_add : ∀ a w, pr9_add a w → ∃ q a' ci fs r, a = .inr (.inl q) :: a' ∧ w[q]? = some (.inr (ci, fs)) ∧ hn_cl[ci]? = some r ∧ r.1 = hn_R9 := by
  rintro a w ⟨r, t, m, y, x, c, u, rfl, rfl, hp⟩
  exact ⟨0, _, 9, _, _, rfl, rfl, rfl, rfl⟩
set_option maxRecDepth 100000 in
set_option maxHeartbeats 4000000 in
theorem km9_add {l : Launch} {E : (Nat → Prop) → State → Prop} {D : va_G} {ou : Nat → Nat} {ca : Nat → ClassId} (hE : hg_E E ou) : hg_Met l E D ou ca hy9_add prog_1_method_4_code 2 (some .int) 1 pr9_add fm9_add := by
  refine am_met (B := kb9_add) (cuts := [33]) (nt := 5) (by decide +kernel) rfl rfl (hg_tys_ok ca) ?_ (by decide) rl9_add ?_ rn9_add
  · exact fun t ht => List.mem_cons_of_mem _ (hg_arr t ht)
  · intro a w hp ad p e R s m args below meth c hR X hEs hnm
    have hR1 : 1 ≤ R.frames ∧ 40 ≤ R.locals := by rw [hR]; exact ⟨Nat.le_refl _, Nat.le_refl _⟩
    have hN := hE.2.1 _ _ hEs
    refine ⟨kd9_add_ok, fun index ci fi mode hq => kf9_ok X.2.2.2.2.1 hN.1 (index, ci, fi, mode) (am_as_mem hq), fun index ci fs hq => (am_no hq).elim, fun x v hq => (am_no hq).elim, ?_, fun o t n f hq => (am_no hq).elim, rfl, rfl, by rw [hR]; exact Nat.le_refl _, by rw [hR]; exact Nat.le_refl _⟩
    intro pc sel n0 pre0 f0 hq
    have hz : ∀ q ∈ ki9_add, am_CK p l e R s m args below meth c D hn_cl (va_A (am_w ad ou ca w) s.heap.size) ou ca 2 q.1 q.2.2.1 q.2.2.2.1 q.2.2.2.2 := by
      refine am_allc (am_ck_V (n := 1) X hEs hE.1 (km6_at hE) (hg_good (gw_mem 318 (by decide +kernel))) rfl (List.mem_cons_of_mem _ (gw_mem 69 (by decide +kernel))) (List.mem_cons_of_mem _ (gw_mem 588 (by decide +kernel))) (List.mem_cons_of_mem _ (gw_mem 316 (by decide +kernel))) (List.mem_cons_of_mem _ (gw_mem 317 (by decide +kernel))) pa6_at (by decide +kernel) ⟨Nat.le_trans (by decide) hR1.1, Nat.le_trans (by decide) hR1.2⟩ (kd9_add_ok (53, .invokevirtual 66, 3) (List.mem_of_getElem? (i := 26) rfl))) (am_allc (am_ck_V (n := 1) X hEs hE.1 (km6_put hE) (hg_good (gw_mem 290 (by decide +kernel))) rfl (List.mem_cons_of_mem _ (gw_mem 69 (by decide +kernel))) (List.mem_cons_of_mem _ (gw_mem 287 (by decide +kernel))) (List.mem_cons_of_mem _ (gw_mem 288 (by decide +kernel))) (List.mem_cons_of_mem _ (gw_mem 289 (by decide +kernel))) pa6_put (by decide +kernel) ⟨Nat.le_trans (by decide) hR1.1, Nat.le_trans (by decide) hR1.2⟩ (kd9_add_ok (56, .invokevirtual 48, 3) (List.mem_of_getElem? (i := 27) rfl))) (am_allc (am_ck_V (n := 0) X hEs hE.1 (km6_empty hE) (hg_good (gw_mem 298 (by decide +kernel))) rfl (List.mem_cons_of_mem _ (gw_mem 69 (by decide +kernel))) (List.mem_cons_of_mem _ (gw_mem 295 (by decide +kernel))) (List.mem_cons_of_mem _ (gw_mem 296 (by decide +kernel))) (List.mem_cons_of_mem _ (gw_mem 297 (by decide +kernel))) pa6_empty (by decide +kernel) ⟨Nat.le_trans (by decide) hR1.1, Nat.le_trans (by decide) hR1.2⟩ (kd9_add_ok (70, .invokevirtual 51, 3) (List.mem_of_getElem? (i := 33) rfl))) (am_all0)))
    exact hz _ (am_as_mem hq)
noncomputable def ki9_compile : List (Nat × Option (List Nat) × Nat × (List am_V → List am_C → Prop) × am_M) := [(8, some [10, 11, 12, 13, 14, 15, 16, 17, 18, 19, 20, 21, 22, 23, 3, 4], 2, pr0_reads, fm0_reads)]
noncomputable def kb9_compile : am_B := (kd9_compile, am_as kf9, hn_ty, fun _ => none, fun _ => none, am_as ki9_compile, fun _ => none, 5, 1, (some .int))
noncomputable def fn9_compile (r : qt6) (t : qt6) (m : qt2) (y : qt0) (x : qt5) (c : qt1) (u : qt6) : Int32 × qt0 × qt5 × qt1 := Classical.choose (⟨_, rfl⟩ : ∃ z : Int32 × qt0 × qt5 × qt1, z = (if (fn0_reads y x c t).1 = 0 then ((0 : Int32), (fn0_reads y x c t).2.1, (fn0_reads y x c t).2.2.1, (fn0_reads y x c t).2.2.2) else ((qg0_holeCount ((fn0_reads y x c t).2.1)), (fn0_reads y x c t).2.1, (fn0_reads y x c t).2.2.1, (fn0_reads y x c t).2.2.2)))
theorem fq9_compile (r : qt6) (t : qt6) (m : qt2) (y : qt0) (x : qt5) (c : qt1) (u : qt6) : fn9_compile r t m y x c u = (if (fn0_reads y x c t).1 = 0 then ((0 : Int32), (fn0_reads y x c t).2.1, (fn0_reads y x c t).2.2.1, (fn0_reads y x c t).2.2.2) else ((qg0_holeCount ((fn0_reads y x c t).2.1)), (fn0_reads y x c t).2.1, (fn0_reads y x c t).2.2.1, (fn0_reads y x c t).2.2.2)) := Classical.choose_spec (⟨_, rfl⟩ : ∃ z : Int32 × qt0 × qt5 × qt1, z = (if (fn0_reads y x c t).1 = 0 then ((0 : Int32), (fn0_reads y x c t).2.1, (fn0_reads y x c t).2.2.1, (fn0_reads y x c t).2.2.2) else ((qg0_holeCount ((fn0_reads y x c t).2.1)), (fn0_reads y x c t).2.1, (fn0_reads y x c t).2.2.1, (fn0_reads y x c t).2.2.2)))
def wp9_compile (r : qt6) (t : qt6) (m : qt2) (y : qt0) (x : qt5) (c : qt1) (u : qt6) : Prop := ((wp0_reads y x c t) ∧ (((fn0_reads y x c t).1 = 0 → False) ∧ (¬ (fn0_reads y x c t).1 = 0 → True)))
set_option maxRecDepth 100000 in
set_option maxHeartbeats 4000000 in
theorem re9_compile (r : qt6) (t : qt6) (m : qt2) (y : qt0) (x : qt5) (c : qt1) (u : qt6) (hp : wp9_compile r t m y x c u) : am_lf (am_mk kb9_compile 0 0 27) [] (0, am_L0 [.inr (.inl 0)] 1, [], (kw_H r t m y x c u), 0, 0) = some (some (.inl ((fn9_compile r t m y x c u).1)), (kw_H r t m ((fn9_compile r t m y x c u).2.1) ((fn9_compile r t m y x c u).2.2.1) ((fn9_compile r t m y x c u).2.2.2) u)) := by
  unfold wp9_compile at hp
  refine am_lf_eq ?_
  generalize am_lf (am_mk kb9_compile 0 0 27) [] = kt
  refine am_cy (pre := pr0_reads) (f := fm0_reads) (a' := [.inr (.inl 0), .inr (.inl 14)]) (wc := (kw_PT y x c t)) (w' := (kw_H r t m ((fn0_reads y x c t).2.1) ((fn0_reads y x c t).2.2.1) ((fn0_reads y x c t).2.2.2) u)) (r := (some (.inl ((fn0_reads y x c t).1)), (kw_PT ((fn0_reads y x c t).2.1) ((fn0_reads y x c t).2.2.1) ((fn0_reads y x c t).2.2.2) t), 0, 0)) ?_ ?_ ?_ ?_ ?_ ?_ ?_ ?_ ?_ ?_
  · exact ks_H_PT_4_5_6_2_o r t m y x c u
  · rfl
  · rfl
  · exact ks_H_PT_4_5_6_2_s r t m y x c u
  · exact ⟨y, x, c, t, rfl, rfl, hp.1⟩
  · exact fe0_reads y x c t
  · exact kwl_PT ((fn0_reads y x c t).2.1) ((fn0_reads y x c t).2.2.1) ((fn0_reads y x c t).2.2.2) t
  · rfl
  · exact ks_H_PT_4_5_6_2_m r t m y x c u ((fn0_reads y x c t).2.1) ((fn0_reads y x c t).2.2.1) ((fn0_reads y x c t).2.2.2) t
  refine am_if (c := (fn0_reads y x c t).1 = 0) (fun h1 => ?_) (fun h1 => ?_)
  · have q1 := hp.2.1 h1
    exact q1.elim
  · have e : fn9_compile r t m y x c u = ((qg0_holeCount ((fn0_reads y x c t).2.1)), (fn0_reads y x c t).2.1, (fn0_reads y x c t).2.2.1, (fn0_reads y x c t).2.2.2) := by
      rw [fq9_compile]
      rw [if_neg h1]
    rw [e] <;> rfl
abbrev pr9_compile : List am_V → List am_C → Prop := fun a w => ∃ (r : qt6) (t : qt6) (m : qt2) (y : qt0) (x : qt5) (c : qt1) (u : qt6), a = [.inr (.inl 0)] ∧ w = (kw_H r t m y x c u) ∧ wp9_compile r t m y x c u
noncomputable def fm9_compile : am_M := fun a w => (fun (z : Int32 × qt0 × qt5 × qt1) => (some (.inl (z.1)), (kw_H (qs6 w 1) (qs6 w 3) (qs2 w 5) (z.2.1) (z.2.2.1) (z.2.2.2) (qs6 w 25)), 0, 0)) (fn9_compile (qs6 w 1) (qs6 w 3) (qs2 w 5) (qs0 w 10) (qs5 w 15) (qs1 w 23) (qs6 w 25))
theorem fe9_compile (r : qt6) (t : qt6) (m : qt2) (y : qt0) (x : qt5) (c : qt1) (u : qt6) : fm9_compile [.inr (.inl 0)] (kw_H r t m y x c u) = (some (.inl ((fn9_compile r t m y x c u).1)), (kw_H r t m ((fn9_compile r t m y x c u).2.1) ((fn9_compile r t m y x c u).2.2.1) ((fn9_compile r t m y x c u).2.2.2) u), 0, 0) := rfl
set_option maxRecDepth 100000 in
set_option maxHeartbeats 4000000 in
theorem rn9_compile : ∀ (a : List am_V) (w : List am_C), pr9_compile a w → ∃ nq, am_ev (am_mk kb9_compile (fm9_compile a w).2.2.1 (fm9_compile a w).2.2.2 w.length) [] nq (0, am_L0 a 1, [], w, 0, 0) = some ((fm9_compile a w).1, (fm9_compile a w).2.1) := by
  rintro a w ⟨r, t, m, y, x, c, u, rfl, rfl, hp⟩
  rw [fe9_compile r t m y x c u]
  exact am_lf_ev (re9_compile r t m y x c u hp)
theorem rl9_compile : ∀ (a : List am_V) (w : List am_C), pr9_compile a w → a.length ≤ 1 := by
  rintro a w ⟨r, t, m, y, x, c, u, rfl, rfl, hp⟩
  exact Nat.le_of_ble_eq_true rfl
theorem pa9_compile : ∀ a w, pr9_compile a w → ∃ q a' ci fs r, a = .inr (.inl q) :: a' ∧ w[q]? = some (.inr (ci, fs)) ∧ hn_cl[ci]? = some r ∧ r.1 = hn_R9 := by
  rintro a w ⟨r, t, m, y, x, c, u, rfl, rfl, hp⟩
  exact ⟨0, _, 9, _, _, rfl, rfl, rfl, rfl⟩
set_option maxRecDepth 100000 in
set_option maxHeartbeats 4000000 in
theorem km9_compile {l : Launch} {E : (Nat → Prop) → State → Prop} {D : va_G} {ou : Nat → Nat} {ca : Nat → ClassId} (hE : hg_E E ou) : hg_Met l E D ou ca hy9_compile prog_1_method_6_code 1 (some .int) 10 pr9_compile fm9_compile := by
  refine am_met (B := kb9_compile) (cuts := []) (nt := 5) (by decide +kernel) rfl rfl (hg_tys_ok ca) ?_ (by decide) rl9_compile ?_ rn9_compile
  · exact fun t ht => List.mem_cons_of_mem _ (hg_arr t ht)
  · intro a w hp ad p e R s m args below meth c hR X hEs hnm
    have hR1 : 10 ≤ R.frames ∧ 400 ≤ R.locals := by rw [hR]; exact ⟨Nat.le_refl _, Nat.le_refl _⟩
    have hN := hE.2.1 _ _ hEs
    refine ⟨kd9_compile_ok, fun index ci fi mode hq => kf9_ok X.2.2.2.2.1 hN.1 (index, ci, fi, mode) (am_as_mem hq), fun index ci fs hq => (am_no hq).elim, fun x v hq => (am_no hq).elim, ?_, fun o t n f hq => (am_no hq).elim, rfl, rfl, by rw [hR]; exact Nat.le_refl _, by rw [hR]; exact Nat.le_refl _⟩
    intro pc sel n0 pre0 f0 hq
    have hz : ∀ q ∈ ki9_compile, am_CK p l e R s m args below meth c D hn_cl (va_A (am_w ad ou ca w) s.heap.size) ou ca 1 q.1 q.2.2.1 q.2.2.2.1 q.2.2.2.2 := by
      refine am_allc (am_ck_V (n := 1) X hEs hE.1 (km0_reads hE) (hg_good (gw_mem 310 (by decide +kernel))) rfl (List.mem_cons_of_mem _ (gw_mem 72 (by decide +kernel))) (List.mem_cons_of_mem _ (gw_mem 307 (by decide +kernel))) (List.mem_cons_of_mem _ (gw_mem 308 (by decide +kernel))) (List.mem_cons_of_mem _ (gw_mem 309 (by decide +kernel))) pa0_reads (by decide +kernel) ⟨Nat.le_trans (by decide) hR1.1, Nat.le_trans (by decide) hR1.2⟩ (kd9_compile_ok (8, .invokevirtual 74, 3) (List.mem_of_getElem? (i := 4) rfl))) (am_all0)
    exact hz _ (am_as_mem hq)
noncomputable def ki9_item : List (Nat × Option (List Nat) × Nat × (List am_V → List am_C → Prop) × am_M) := [(5, some [5, 6, 7, 8, 9], 2, pr2_isVariable, fm2_isVariable), (30, some [5, 6, 7, 8, 9, 1, 2], 3, pr2_keep, fm2_keep), (50, some [1, 2], 1, pr6_empty, fm6_empty), (59, some [5, 6, 7, 8, 9], 2, pr2_count, fm2_count)]
noncomputable def kb9_item : am_B := (kd9_item, am_as kf9, hn_ty, fun _ => none, fun _ => none, am_as ki9_item, fun _ => none, 5, 2, (some .int))
noncomputable def fn9_item (r : qt6) (t : qt6) (m : qt2) (y : qt0) (x : qt5) (c : qt1) (u : qt6) (p0 : Int32) : Int32 × qt6 × qt2 := Classical.choose (⟨_, rfl⟩ : ∃ z : Int32 × qt6 × qt2, z = (if (fn2_isVariable m p0) = 0 then ((0 : Int32), r, m) else (if (fn2_keep m r p0).1 = 0 then ((0 : Int32), r, (fn2_keep m r p0).2) else ((fn2_count ((fn2_keep m r p0).2) p0), (fn6_empty 40 r).2, (fn2_keep m r p0).2))))
theorem fq9_item (r : qt6) (t : qt6) (m : qt2) (y : qt0) (x : qt5) (c : qt1) (u : qt6) (p0 : Int32) : fn9_item r t m y x c u p0 = (if (fn2_isVariable m p0) = 0 then ((0 : Int32), r, m) else (if (fn2_keep m r p0).1 = 0 then ((0 : Int32), r, (fn2_keep m r p0).2) else ((fn2_count ((fn2_keep m r p0).2) p0), (fn6_empty 40 r).2, (fn2_keep m r p0).2))) := Classical.choose_spec (⟨_, rfl⟩ : ∃ z : Int32 × qt6 × qt2, z = (if (fn2_isVariable m p0) = 0 then ((0 : Int32), r, m) else (if (fn2_keep m r p0).1 = 0 then ((0 : Int32), r, (fn2_keep m r p0).2) else ((fn2_count ((fn2_keep m r p0).2) p0), (fn6_empty 40 r).2, (fn2_keep m r p0).2))))
def wp9_item (r : qt6) (t : qt6) (m : qt2) (y : qt0) (x : qt5) (c : qt1) (u : qt6) (p0 : Int32) : Prop := ((wp2_isVariable m p0) ∧ (((fn2_isVariable m p0) = 0 → False) ∧ (¬ (fn2_isVariable m p0) = 0 → ((wp2_keep m r p0) ∧ (((fn2_keep m r p0).1 = 0 → False) ∧ (¬ (fn2_keep m r p0).1 = 0 → ((wp6_empty 40 r) ∧ (wp2_count ((fn2_keep m r p0).2) p0))))))))
set_option maxRecDepth 100000 in
set_option maxHeartbeats 4000000 in
theorem re9_item (r : qt6) (t : qt6) (m : qt2) (y : qt0) (x : qt5) (c : qt1) (u : qt6) (p0 : Int32) (hp : wp9_item r t m y x c u p0) : am_lf (am_mk kb9_item 0 0 27) [] (0, am_L0 [.inr (.inl 0), .inl p0] 2, [], (kw_H r t m y x c u), 0, 0) = some (some (.inl ((fn9_item r t m y x c u p0).1)), (kw_H ((fn9_item r t m y x c u p0).2.1) t ((fn9_item r t m y x c u p0).2.2) y x c u)) := by
  unfold wp9_item at hp
  refine am_lf_eq ?_
  generalize am_lf (am_mk kb9_item 0 0 27) [] = kt
  refine am_cy (pre := pr2_isVariable) (f := fm2_isVariable) (a' := [.inr (.inl 0), .inl p0]) (wc := (kw_I m)) (w' := (kw_H r t m y x c u)) (r := (some (.inl (fn2_isVariable m p0)), (kw_I m), 0, 0)) ?_ ?_ ?_ ?_ ?_ ?_ ?_ ?_ ?_ ?_
  · exact ks_H_I_3_o r t m y x c u
  · rfl
  · rfl
  · exact ks_H_I_3_s r t m y x c u
  · exact ⟨m, p0, rfl, rfl, hp.1⟩
  · exact fe2_isVariable m p0
  · exact kwl_I m
  · rfl
  · exact ks_H_I_3_m r t m y x c u m
  refine am_if (c := (fn2_isVariable m p0) = 0) (fun h1 => ?_) (fun h1 => ?_)
  · have q1 := hp.2.1 h1
    exact q1.elim
  · have q1 := hp.2.2 h1
    refine am_cy (pre := pr2_keep) (f := fm2_keep) (a' := [.inr (.inl 0), .inl p0, .inr (.inl 5)]) (wc := (kw_IT m r)) (w' := (kw_H r t ((fn2_keep m r p0).2) y x c u)) (r := (some (.inl ((fn2_keep m r p0).1)), (kw_IT ((fn2_keep m r p0).2) r), 0, 0)) ?_ ?_ ?_ ?_ ?_ ?_ ?_ ?_ ?_ ?_
    · exact ks_H_IT_3_1_o r t m y x c u
    · rfl
    · rfl
    · exact ks_H_IT_3_1_s r t m y x c u
    · exact ⟨m, r, p0, rfl, rfl, q1.1⟩
    · exact fe2_keep m r p0
    · exact kwl_IT ((fn2_keep m r p0).2) r
    · rfl
    · exact ks_H_IT_3_1_m r t m y x c u ((fn2_keep m r p0).2) r
    refine am_if (c := (fn2_keep m r p0).1 = 0) (fun h2 => ?_) (fun h2 => ?_)
    · have q2 := q1.2.1 h2
      exact q2.elim
    · have q2 := q1.2.2 h2
      refine am_cy (pre := pr6_empty) (f := fm6_empty) (a' := [.inr (.inl 0)]) (wc := (kw_T 40 r)) (w' := (kw_H ((fn6_empty 40 r).2) t ((fn2_keep m r p0).2) y x c u)) (r := (some (.inl ((fn6_empty 40 r).1)), (kw_T 40 ((fn6_empty 40 r).2)), 0, 0)) ?_ ?_ ?_ ?_ ?_ ?_ ?_ ?_ ?_ ?_
      · exact ks_H_T_1_o r t ((fn2_keep m r p0).2) y x c u
      · rfl
      · rfl
      · exact ks_H_T_1_s r t ((fn2_keep m r p0).2) y x c u
      · exact ⟨40, r, rfl, rfl, q2.1⟩
      · exact fe6_empty 40 r
      · exact kwl_T 40 ((fn6_empty 40 r).2)
      · rfl
      · exact ks_H_T_1_m r t ((fn2_keep m r p0).2) y x c u ((fn6_empty 40 r).2)
      refine am_cy (pre := pr2_count) (f := fm2_count) (a' := [.inr (.inl 0), .inl p0]) (wc := (kw_I ((fn2_keep m r p0).2))) (w' := (kw_H ((fn6_empty 40 r).2) t ((fn2_keep m r p0).2) y x c u)) (r := (some (.inl (fn2_count ((fn2_keep m r p0).2) p0)), (kw_I ((fn2_keep m r p0).2)), 0, 0)) ?_ ?_ ?_ ?_ ?_ ?_ ?_ ?_ ?_ ?_
      · exact ks_H_I_3_o ((fn6_empty 40 r).2) t ((fn2_keep m r p0).2) y x c u
      · rfl
      · rfl
      · exact ks_H_I_3_s ((fn6_empty 40 r).2) t ((fn2_keep m r p0).2) y x c u
      · exact ⟨(fn2_keep m r p0).2, p0, rfl, rfl, q2.2⟩
      · exact fe2_count ((fn2_keep m r p0).2) p0
      · exact kwl_I ((fn2_keep m r p0).2)
      · rfl
      · exact ks_H_I_3_m ((fn6_empty 40 r).2) t ((fn2_keep m r p0).2) y x c u ((fn2_keep m r p0).2)
      have e : fn9_item r t m y x c u p0 = ((fn2_count ((fn2_keep m r p0).2) p0), (fn6_empty 40 r).2, (fn2_keep m r p0).2) := by
        rw [fq9_item]
        rw [if_neg h1, if_neg h2]
      rw [e] <;> rfl
abbrev pr9_item : List am_V → List am_C → Prop := fun a w => ∃ (r : qt6) (t : qt6) (m : qt2) (y : qt0) (x : qt5) (c : qt1) (u : qt6) (p0 : Int32), a = [.inr (.inl 0), .inl p0] ∧ w = (kw_H r t m y x c u) ∧ wp9_item r t m y x c u p0
noncomputable def fm9_item : am_M := fun a w => (fun (z : Int32 × qt6 × qt2) => (some (.inl (z.1)), (kw_H (z.2.1) (qs6 w 3) (z.2.2) (qs0 w 10) (qs5 w 15) (qs1 w 23) (qs6 w 25)), 0, 0)) (fn9_item (qs6 w 1) (qs6 w 3) (qs2 w 5) (qs0 w 10) (qs5 w 15) (qs1 w 23) (qs6 w 25) (am_i (am_an a 1)))
theorem fe9_item (r : qt6) (t : qt6) (m : qt2) (y : qt0) (x : qt5) (c : qt1) (u : qt6) (p0 : Int32) : fm9_item [.inr (.inl 0), .inl p0] (kw_H r t m y x c u) = (some (.inl ((fn9_item r t m y x c u p0).1)), (kw_H ((fn9_item r t m y x c u p0).2.1) t ((fn9_item r t m y x c u p0).2.2) y x c u), 0, 0) := rfl
set_option maxRecDepth 100000 in
set_option maxHeartbeats 4000000 in
theorem rn9_item : ∀ (a : List am_V) (w : List am_C), pr9_item a w → ∃ nq, am_ev (am_mk kb9_item (fm9_item a w).2.2.1 (fm9_item a w).2.2.2 w.length) [] nq (0, am_L0 a 2, [], w, 0, 0) = some ((fm9_item a w).1, (fm9_item a w).2.1) := by
  rintro a w ⟨r, t, m, y, x, c, u, p0, rfl, rfl, hp⟩
  rw [fe9_item r t m y x c u p0]
  exact am_lf_ev (re9_item r t m y x c u p0 hp)
theorem rl9_item : ∀ (a : List am_V) (w : List am_C), pr9_item a w → a.length ≤ 2 := by
  rintro a w ⟨r, t, m, y, x, c, u, p0, rfl, rfl, hp⟩
  exact Nat.le_of_ble_eq_true rfl
theorem pa9_item : ∀ a w, pr9_item a w → ∃ q a' ci fs r, a = .inr (.inl q) :: a' ∧ w[q]? = some (.inr (ci, fs)) ∧ hn_cl[ci]? = some r ∧ r.1 = hn_R9 := by
  rintro a w ⟨r, t, m, y, x, c, u, p0, rfl, rfl, hp⟩
  exact ⟨0, _, 9, _, _, rfl, rfl, rfl, rfl⟩
set_option maxRecDepth 100000 in
set_option maxHeartbeats 4000000 in
theorem km9_item {l : Launch} {E : (Nat → Prop) → State → Prop} {D : va_G} {ou : Nat → Nat} {ca : Nat → ClassId} (hE : hg_E E ou) : hg_Met l E D ou ca hy9_item prog_1_method_10_code 2 (some .int) 2 pr9_item fm9_item := by
  refine am_met (B := kb9_item) (cuts := []) (nt := 5) (by decide +kernel) rfl rfl (hg_tys_ok ca) ?_ (by decide) rl9_item ?_ rn9_item
  · exact fun t ht => List.mem_cons_of_mem _ (hg_arr t ht)
  · intro a w hp ad p e R s m args below meth c hR X hEs hnm
    have hR1 : 2 ≤ R.frames ∧ 80 ≤ R.locals := by rw [hR]; exact ⟨Nat.le_refl _, Nat.le_refl _⟩
    have hN := hE.2.1 _ _ hEs
    refine ⟨kd9_item_ok, fun index ci fi mode hq => kf9_ok X.2.2.2.2.1 hN.1 (index, ci, fi, mode) (am_as_mem hq), fun index ci fs hq => (am_no hq).elim, fun x v hq => (am_no hq).elim, ?_, fun o t n f hq => (am_no hq).elim, rfl, rfl, by rw [hR]; exact Nat.le_refl _, by rw [hR]; exact Nat.le_refl _⟩
    intro pc sel n0 pre0 f0 hq
    have hz : ∀ q ∈ ki9_item, am_CK p l e R s m args below meth c D hn_cl (va_A (am_w ad ou ca w) s.heap.size) ou ca 2 q.1 q.2.2.1 q.2.2.2.1 q.2.2.2.2 := by
      refine am_allc (am_ck_V (n := 1) X hEs hE.1 (km2_isVariable hE) (hg_good (gw_mem 700 (by decide +kernel))) rfl (List.mem_cons_of_mem _ (gw_mem 71 (by decide +kernel))) (List.mem_cons_of_mem _ (gw_mem 697 (by decide +kernel))) (List.mem_cons_of_mem _ (gw_mem 698 (by decide +kernel))) (List.mem_cons_of_mem _ (gw_mem 699 (by decide +kernel))) pa2_isVariable (by decide +kernel) ⟨Nat.le_trans (by decide) hR1.1, Nat.le_trans (by decide) hR1.2⟩ (kd9_item_ok (5, .invokevirtual 93, 3) (List.mem_of_getElem? (i := 3) rfl))) (am_allc (am_ck_V (n := 2) X hEs hE.1 (km2_keep hE) (hg_good (gw_mem 720 (by decide +kernel))) rfl (List.mem_cons_of_mem _ (gw_mem 71 (by decide +kernel))) (List.mem_cons_of_mem _ (gw_mem 717 (by decide +kernel))) (List.mem_cons_of_mem _ (gw_mem 718 (by decide +kernel))) (List.mem_cons_of_mem _ (gw_mem 719 (by decide +kernel))) pa2_keep (by decide +kernel) ⟨Nat.le_trans (by decide) hR1.1, Nat.le_trans (by decide) hR1.2⟩ (kd9_item_ok (30, .invokevirtual 102, 3) (List.mem_of_getElem? (i := 15) rfl))) (am_allc (am_ck_V (n := 0) X hEs hE.1 (km6_empty hE) (hg_good (gw_mem 298 (by decide +kernel))) rfl (List.mem_cons_of_mem _ (gw_mem 69 (by decide +kernel))) (List.mem_cons_of_mem _ (gw_mem 295 (by decide +kernel))) (List.mem_cons_of_mem _ (gw_mem 296 (by decide +kernel))) (List.mem_cons_of_mem _ (gw_mem 297 (by decide +kernel))) pa6_empty (by decide +kernel) ⟨Nat.le_trans (by decide) hR1.1, Nat.le_trans (by decide) hR1.2⟩ (kd9_item_ok (50, .invokevirtual 51, 3) (List.mem_of_getElem? (i := 24) rfl))) (am_allc (am_ck_V (n := 1) X hEs hE.1 (km2_count hE) (hg_good (gw_mem 727 (by decide +kernel))) rfl (List.mem_cons_of_mem _ (gw_mem 71 (by decide +kernel))) (List.mem_cons_of_mem _ (gw_mem 724 (by decide +kernel))) (List.mem_cons_of_mem _ (gw_mem 725 (by decide +kernel))) (List.mem_cons_of_mem _ (gw_mem 726 (by decide +kernel))) pa2_count (by decide +kernel) ⟨Nat.le_trans (by decide) hR1.1, Nat.le_trans (by decide) hR1.2⟩ (kd9_item_ok (59, .invokevirtual 108, 3) (List.mem_of_getElem? (i := 29) rfl))) (am_all0))))
    exact hz _ (am_as_mem hq)
noncomputable def ki9_forget : List (Nat × Option (List Nat) × Nat × (List am_V → List am_C → Prop) × am_M) := [(5, some [5, 6, 7, 8, 9], 2, pr2_isVariable, fm2_isVariable), (26, some [5, 6, 7, 8, 9], 2, pr2_drop, fm2_drop)]
noncomputable def kb9_forget : am_B := (kd9_forget, am_as kf9, hn_ty, fun _ => none, fun _ => none, am_as ki9_forget, fun _ => none, 5, 2, (some .int))
noncomputable def fn9_forget (r : qt6) (t : qt6) (m : qt2) (y : qt0) (x : qt5) (c : qt1) (u : qt6) (p0 : Int32) : Int32 × qt2 := Classical.choose (⟨_, rfl⟩ : ∃ z : Int32 × qt2, z = (if (fn2_isVariable m p0) = 0 then ((0 : Int32), m) else ((fn2_drop m p0).1, (fn2_drop m p0).2)))
theorem fq9_forget (r : qt6) (t : qt6) (m : qt2) (y : qt0) (x : qt5) (c : qt1) (u : qt6) (p0 : Int32) : fn9_forget r t m y x c u p0 = (if (fn2_isVariable m p0) = 0 then ((0 : Int32), m) else ((fn2_drop m p0).1, (fn2_drop m p0).2)) := Classical.choose_spec (⟨_, rfl⟩ : ∃ z : Int32 × qt2, z = (if (fn2_isVariable m p0) = 0 then ((0 : Int32), m) else ((fn2_drop m p0).1, (fn2_drop m p0).2)))
def wp9_forget (r : qt6) (t : qt6) (m : qt2) (y : qt0) (x : qt5) (c : qt1) (u : qt6) (p0 : Int32) : Prop := ((wp2_isVariable m p0) ∧ (((fn2_isVariable m p0) = 0 → False) ∧ (¬ (fn2_isVariable m p0) = 0 → (wp2_drop m p0))))
set_option maxRecDepth 100000 in
set_option maxHeartbeats 4000000 in
theorem re9_forget (r : qt6) (t : qt6) (m : qt2) (y : qt0) (x : qt5) (c : qt1) (u : qt6) (p0 : Int32) (hp : wp9_forget r t m y x c u p0) : am_lf (am_mk kb9_forget 0 0 27) [] (0, am_L0 [.inr (.inl 0), .inl p0] 2, [], (kw_H r t m y x c u), 0, 0) = some (some (.inl ((fn9_forget r t m y x c u p0).1)), (kw_H r t ((fn9_forget r t m y x c u p0).2) y x c u)) := by
  unfold wp9_forget at hp
  refine am_lf_eq ?_
  generalize am_lf (am_mk kb9_forget 0 0 27) [] = kt
  refine am_cy (pre := pr2_isVariable) (f := fm2_isVariable) (a' := [.inr (.inl 0), .inl p0]) (wc := (kw_I m)) (w' := (kw_H r t m y x c u)) (r := (some (.inl (fn2_isVariable m p0)), (kw_I m), 0, 0)) ?_ ?_ ?_ ?_ ?_ ?_ ?_ ?_ ?_ ?_
  · exact ks_H_I_3_o r t m y x c u
  · rfl
  · rfl
  · exact ks_H_I_3_s r t m y x c u
  · exact ⟨m, p0, rfl, rfl, hp.1⟩
  · exact fe2_isVariable m p0
  · exact kwl_I m
  · rfl
  · exact ks_H_I_3_m r t m y x c u m
  refine am_if (c := (fn2_isVariable m p0) = 0) (fun h1 => ?_) (fun h1 => ?_)
  · have q1 := hp.2.1 h1
    exact q1.elim
  · have q1 := hp.2.2 h1
    refine am_cy (pre := pr2_drop) (f := fm2_drop) (a' := [.inr (.inl 0), .inl p0]) (wc := (kw_I m)) (w' := (kw_H r t ((fn2_drop m p0).2) y x c u)) (r := (some (.inl ((fn2_drop m p0).1)), (kw_I ((fn2_drop m p0).2)), 0, 0)) ?_ ?_ ?_ ?_ ?_ ?_ ?_ ?_ ?_ ?_
    · exact ks_H_I_3_o r t m y x c u
    · rfl
    · rfl
    · exact ks_H_I_3_s r t m y x c u
    · exact ⟨m, p0, rfl, rfl, q1⟩
    · exact fe2_drop m p0
    · exact kwl_I ((fn2_drop m p0).2)
    · rfl
    · exact ks_H_I_3_m r t m y x c u ((fn2_drop m p0).2)
    have e : fn9_forget r t m y x c u p0 = ((fn2_drop m p0).1, (fn2_drop m p0).2) := by
      rw [fq9_forget]
      rw [if_neg h1]
    rw [e] <;> rfl
abbrev pr9_forget : List am_V → List am_C → Prop := fun a w => ∃ (r : qt6) (t : qt6) (m : qt2) (y : qt0) (x : qt5) (c : qt1) (u : qt6) (p0 : Int32), a = [.inr (.inl 0), .inl p0] ∧ w = (kw_H r t m y x c u) ∧ wp9_forget r t m y x c u p0
noncomputable def fm9_forget : am_M := fun a w => (fun (z : Int32 × qt2) => (some (.inl (z.1)), (kw_H (qs6 w 1) (qs6 w 3) (z.2) (qs0 w 10) (qs5 w 15) (qs1 w 23) (qs6 w 25)), 0, 0)) (fn9_forget (qs6 w 1) (qs6 w 3) (qs2 w 5) (qs0 w 10) (qs5 w 15) (qs1 w 23) (qs6 w 25) (am_i (am_an a 1)))
theorem fe9_forget (r : qt6) (t : qt6) (m : qt2) (y : qt0) (x : qt5) (c : qt1) (u : qt6) (p0 : Int32) : fm9_forget [.inr (.inl 0), .inl p0] (kw_H r t m y x c u) = (some (.inl ((fn9_forget r t m y x c u p0).1)), (kw_H r t ((fn9_forget r t m y x c u p0).2) y x c u), 0, 0) := rfl
set_option maxRecDepth 100000 in
set_option maxHeartbeats 4000000 in
theorem rn9_forget : ∀ (a : List am_V) (w : List am_C), pr9_forget a w → ∃ nq, am_ev (am_mk kb9_forget (fm9_forget a w).2.2.1 (fm9_forget a w).2.2.2 w.length) [] nq (0, am_L0 a 2, [], w, 0, 0) = some ((fm9_forget a w).1, (fm9_forget a w).2.1) := by
  rintro a w ⟨r, t, m, y, x, c, u, p0, rfl, rfl, hp⟩
  rw [fe9_forget r t m y x c u p0]
  exact am_lf_ev (re9_forget r t m y x c u p0 hp)
theorem rl9_forget : ∀ (a : List am_V) (w : List am_C), pr9_forget a w → a.length ≤ 2 := by
  rintro a w ⟨r, t, m, y, x, c, u, p0, rfl, rfl, hp⟩
  exact Nat.le_of_ble_eq_true rfl
theorem pa9_forget : ∀ a w, pr9_forget a w → ∃ q a' ci fs r, a = .inr (.inl q) :: a' ∧ w[q]? = some (.inr (ci, fs)) ∧ hn_cl[ci]? = some r ∧ r.1 = hn_R9 := by
  rintro a w ⟨r, t, m, y, x, c, u, p0, rfl, rfl, hp⟩
  exact ⟨0, _, 9, _, _, rfl, rfl, rfl, rfl⟩
set_option maxRecDepth 100000 in
set_option maxHeartbeats 4000000 in
theorem km9_forget {l : Launch} {E : (Nat → Prop) → State → Prop} {D : va_G} {ou : Nat → Nat} {ca : Nat → ClassId} (hE : hg_E E ou) : hg_Met l E D ou ca hy9_forget prog_1_method_11_code 2 (some .int) 3 pr9_forget fm9_forget := by
  refine am_met (B := kb9_forget) (cuts := []) (nt := 5) (by decide +kernel) rfl rfl (hg_tys_ok ca) ?_ (by decide) rl9_forget ?_ rn9_forget
  · exact fun t ht => List.mem_cons_of_mem _ (hg_arr t ht)
  · intro a w hp ad p e R s m args below meth c hR X hEs hnm
    have hR1 : 3 ≤ R.frames ∧ 120 ≤ R.locals := by rw [hR]; exact ⟨Nat.le_refl _, Nat.le_refl _⟩
    have hN := hE.2.1 _ _ hEs
    refine ⟨kd9_forget_ok, fun index ci fi mode hq => kf9_ok X.2.2.2.2.1 hN.1 (index, ci, fi, mode) (am_as_mem hq), fun index ci fs hq => (am_no hq).elim, fun x v hq => (am_no hq).elim, ?_, fun o t n f hq => (am_no hq).elim, rfl, rfl, by rw [hR]; exact Nat.le_refl _, by rw [hR]; exact Nat.le_refl _⟩
    intro pc sel n0 pre0 f0 hq
    have hz : ∀ q ∈ ki9_forget, am_CK p l e R s m args below meth c D hn_cl (va_A (am_w ad ou ca w) s.heap.size) ou ca 2 q.1 q.2.2.1 q.2.2.2.1 q.2.2.2.2 := by
      refine am_allc (am_ck_V (n := 1) X hEs hE.1 (km2_isVariable hE) (hg_good (gw_mem 700 (by decide +kernel))) rfl (List.mem_cons_of_mem _ (gw_mem 71 (by decide +kernel))) (List.mem_cons_of_mem _ (gw_mem 697 (by decide +kernel))) (List.mem_cons_of_mem _ (gw_mem 698 (by decide +kernel))) (List.mem_cons_of_mem _ (gw_mem 699 (by decide +kernel))) pa2_isVariable (by decide +kernel) ⟨Nat.le_trans (by decide) hR1.1, Nat.le_trans (by decide) hR1.2⟩ (kd9_forget_ok (5, .invokevirtual 93, 3) (List.mem_of_getElem? (i := 3) rfl))) (am_allc (am_ck_V (n := 1) X hEs hE.1 (km2_drop hE) (hg_good (gw_mem 738 (by decide +kernel))) rfl (List.mem_cons_of_mem _ (gw_mem 71 (by decide +kernel))) (List.mem_cons_of_mem _ (gw_mem 735 (by decide +kernel))) (List.mem_cons_of_mem _ (gw_mem 736 (by decide +kernel))) (List.mem_cons_of_mem _ (gw_mem 737 (by decide +kernel))) pa2_drop (by decide +kernel) ⟨Nat.le_trans (by decide) hR1.1, Nat.le_trans (by decide) hR1.2⟩ (kd9_forget_ok (26, .invokevirtual 111, 3) (List.mem_of_getElem? (i := 13) rfl))) (am_all0))
    exact hz _ (am_as_mem hq)
noncomputable def ki9_write : List (Nat × Option (List Nat) × Nat × (List am_V → List am_C → Prop) × am_M) := [(35, some [24, 25, 26, 15, 16, 17, 18, 19, 20, 21, 22, 5, 6, 7, 8, 9], 3, pr8_fill, fm8_fill)]
noncomputable def kb9_write : am_B := (kd9_write, am_as kf9, hn_ty, fun _ => none, fun _ => none, am_as ki9_write, fun _ => none, 5, 1, (some .int))
noncomputable def fn9_write (r : qt6) (t : qt6) (m : qt2) (y : qt0) (x : qt5) (c : qt1) (u : qt6) : Int32 × qt2 × qt6 := Classical.choose (⟨_, rfl⟩ : ∃ z : Int32 × qt2 × qt6, z = (if (qg0_compiled y) = 0 then ((0 : Int32), m, u) else (if (fn8_fill u x m).1 = 0 then ((0 : Int32), (fn8_fill u x m).2.2, (fn8_fill u x m).2.1) else ((qg6_length ((fn8_fill u x m).2.1)), (fn8_fill u x m).2.2, (fn8_fill u x m).2.1))))
theorem fq9_write (r : qt6) (t : qt6) (m : qt2) (y : qt0) (x : qt5) (c : qt1) (u : qt6) : fn9_write r t m y x c u = (if (qg0_compiled y) = 0 then ((0 : Int32), m, u) else (if (fn8_fill u x m).1 = 0 then ((0 : Int32), (fn8_fill u x m).2.2, (fn8_fill u x m).2.1) else ((qg6_length ((fn8_fill u x m).2.1)), (fn8_fill u x m).2.2, (fn8_fill u x m).2.1))) := Classical.choose_spec (⟨_, rfl⟩ : ∃ z : Int32 × qt2 × qt6, z = (if (qg0_compiled y) = 0 then ((0 : Int32), m, u) else (if (fn8_fill u x m).1 = 0 then ((0 : Int32), (fn8_fill u x m).2.2, (fn8_fill u x m).2.1) else ((qg6_length ((fn8_fill u x m).2.1)), (fn8_fill u x m).2.2, (fn8_fill u x m).2.1))))
def wp9_write (r : qt6) (t : qt6) (m : qt2) (y : qt0) (x : qt5) (c : qt1) (u : qt6) : Prop := (((qg0_compiled y) = 0 → False) ∧ (¬ (qg0_compiled y) = 0 → ((wp8_fill u x m) ∧ (((fn8_fill u x m).1 = 0 → False) ∧ (¬ (fn8_fill u x m).1 = 0 → True)))))
set_option maxRecDepth 100000 in
set_option maxHeartbeats 4000000 in
theorem re9_write (r : qt6) (t : qt6) (m : qt2) (y : qt0) (x : qt5) (c : qt1) (u : qt6) (hp : wp9_write r t m y x c u) : am_lf (am_mk kb9_write 0 0 27) [] (0, am_L0 [.inr (.inl 0)] 1, [], (kw_H r t m y x c u), 0, 0) = some (some (.inl ((fn9_write r t m y x c u).1)), (kw_H r t ((fn9_write r t m y x c u).2.1) y x c ((fn9_write r t m y x c u).2.2))) := by
  unfold wp9_write at hp
  refine am_lf_eq ?_
  generalize am_lf (am_mk kb9_write 0 0 27) [] = kt
  refine am_if (c := (qg0_compiled y) = 0) (fun h1 => ?_) (fun h1 => ?_)
  · have q1 := hp.1 h1
    exact q1.elim
  · have q1 := hp.2 h1
    refine am_cy (pre := pr8_fill) (f := fm8_fill) (a' := [.inr (.inl 0), .inr (.inl 3), .inr (.inl 11)]) (wc := (kw_W u x m)) (w' := (kw_H r t ((fn8_fill u x m).2.2) y x c ((fn8_fill u x m).2.1))) (r := (some (.inl ((fn8_fill u x m).1)), (kw_W ((fn8_fill u x m).2.1) x ((fn8_fill u x m).2.2)), 0, 0)) ?_ ?_ ?_ ?_ ?_ ?_ ?_ ?_ ?_ ?_
    · exact ks_H_W_7_8_5_3_o r t m y x c u
    · rfl
    · rfl
    · exact ks_H_W_7_8_5_3_s r t m y x c u
    · exact ⟨u, x, m, rfl, rfl, q1.1⟩
    · exact fe8_fill u x m
    · exact kwl_W ((fn8_fill u x m).2.1) x ((fn8_fill u x m).2.2)
    · rfl
    · exact ks_H_W_7_8_5_3_m r t m y x c u ((fn8_fill u x m).2.1) x ((fn8_fill u x m).2.2)
    refine am_if (c := (fn8_fill u x m).1 = 0) (fun h2 => ?_) (fun h2 => ?_)
    · have q2 := q1.2.1 h2
      exact q2.elim
    · have e : fn9_write r t m y x c u = ((qg6_length ((fn8_fill u x m).2.1)), (fn8_fill u x m).2.2, (fn8_fill u x m).2.1) := by
        rw [fq9_write]
        rw [if_neg h1, if_neg h2]
      rw [e] <;> rfl
abbrev pr9_write : List am_V → List am_C → Prop := fun a w => ∃ (r : qt6) (t : qt6) (m : qt2) (y : qt0) (x : qt5) (c : qt1) (u : qt6), a = [.inr (.inl 0)] ∧ w = (kw_H r t m y x c u) ∧ wp9_write r t m y x c u
noncomputable def fm9_write : am_M := fun a w => (fun (z : Int32 × qt2 × qt6) => (some (.inl (z.1)), (kw_H (qs6 w 1) (qs6 w 3) (z.2.1) (qs0 w 10) (qs5 w 15) (qs1 w 23) (z.2.2)), 0, 0)) (fn9_write (qs6 w 1) (qs6 w 3) (qs2 w 5) (qs0 w 10) (qs5 w 15) (qs1 w 23) (qs6 w 25))
theorem fe9_write (r : qt6) (t : qt6) (m : qt2) (y : qt0) (x : qt5) (c : qt1) (u : qt6) : fm9_write [.inr (.inl 0)] (kw_H r t m y x c u) = (some (.inl ((fn9_write r t m y x c u).1)), (kw_H r t ((fn9_write r t m y x c u).2.1) y x c ((fn9_write r t m y x c u).2.2)), 0, 0) := rfl
set_option maxRecDepth 100000 in
set_option maxHeartbeats 4000000 in
theorem rn9_write : ∀ (a : List am_V) (w : List am_C), pr9_write a w → ∃ nq, am_ev (am_mk kb9_write (fm9_write a w).2.2.1 (fm9_write a w).2.2.2 w.length) [] nq (0, am_L0 a 1, [], w, 0, 0) = some ((fm9_write a w).1, (fm9_write a w).2.1) := by
  rintro a w ⟨r, t, m, y, x, c, u, rfl, rfl, hp⟩
  rw [fe9_write r t m y x c u]
  exact am_lf_ev (re9_write r t m y x c u hp)
theorem rl9_write : ∀ (a : List am_V) (w : List am_C), pr9_write a w → a.length ≤ 1 := by
  rintro a w ⟨r, t, m, y, x, c, u, rfl, rfl, hp⟩
  exact Nat.le_of_ble_eq_true rfl
theorem pa9_write : ∀ a w, pr9_write a w → ∃ q a' ci fs r, a = .inr (.inl q) :: a' ∧ w[q]? = some (.inr (ci, fs)) ∧ hn_cl[ci]? = some r ∧ r.1 = hn_R9 := by
  rintro a w ⟨r, t, m, y, x, c, u, rfl, rfl, hp⟩
  exact ⟨0, _, 9, _, _, rfl, rfl, rfl, rfl⟩
set_option maxRecDepth 100000 in
set_option maxHeartbeats 4000000 in
theorem km9_write {l : Launch} {E : (Nat → Prop) → State → Prop} {D : va_G} {ou : Nat → Nat} {ca : Nat → ClassId} (hE : hg_E E ou) : hg_Met l E D ou ca hy9_write prog_1_method_12_code 1 (some .int) 40 pr9_write fm9_write := by
  refine am_met (B := kb9_write) (cuts := []) (nt := 5) (by decide +kernel) rfl rfl (hg_tys_ok ca) ?_ (by decide) rl9_write ?_ rn9_write
  · exact fun t ht => List.mem_cons_of_mem _ (hg_arr t ht)
  · intro a w hp ad p e R s m args below meth c hR X hEs hnm
    have hR1 : 40 ≤ R.frames ∧ 1600 ≤ R.locals := by rw [hR]; exact ⟨Nat.le_refl _, Nat.le_refl _⟩
    have hN := hE.2.1 _ _ hEs
    refine ⟨kd9_write_ok, fun index ci fi mode hq => kf9_ok X.2.2.2.2.1 hN.1 (index, ci, fi, mode) (am_as_mem hq), fun index ci fs hq => (am_no hq).elim, fun x v hq => (am_no hq).elim, ?_, fun o t n f hq => (am_no hq).elim, rfl, rfl, by rw [hR]; exact Nat.le_refl _, by rw [hR]; exact Nat.le_refl _⟩
    intro pc sel n0 pre0 f0 hq
    have hz : ∀ q ∈ ki9_write, am_CK p l e R s m args below meth c D hn_cl (va_A (am_w ad ou ca w) s.heap.size) ou ca 1 q.1 q.2.2.1 q.2.2.2.1 q.2.2.2.2 := by
      refine am_allc (am_ck_V (n := 2) X hEs hE.1 (km8_fill hE) (hg_good (gw_mem 767 (by decide +kernel))) rfl (List.mem_cons_of_mem _ (gw_mem 75 (by decide +kernel))) (List.mem_cons_of_mem _ (gw_mem 764 (by decide +kernel))) (List.mem_cons_of_mem _ (gw_mem 765 (by decide +kernel))) (List.mem_cons_of_mem _ (gw_mem 766 (by decide +kernel))) pa8_fill (by decide +kernel) ⟨Nat.le_trans (by decide) hR1.1, Nat.le_trans (by decide) hR1.2⟩ (kd9_write_ok (35, .invokevirtual 123, 3) (List.mem_of_getElem? (i := 16) rfl))) (am_all0)
    exact hz _ (am_as_mem hq)
