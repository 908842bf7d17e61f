noncomputable def ki8_fill : List (Nat × Option (List Nat) × Nat × (List am_V → List am_C → Prop) × am_M) := [(4, some [1, 2], 1, pr6_empty, fm6_empty), (17, none, 6, pr8_spanA (fk8_span 9).2, fm8_spanA (fk8_span 9).1), (34, some [1, 2], 1, pr6_empty, fm6_empty)]
noncomputable def kb8_fill : am_B := (kd8_fill, am_as kf8, hn_ty, fun _ => none, fun _ => none, am_as ki8_fill, fun _ => none, 5, 3, (some .boolean))
noncomputable def fn8_fill (t : qt6) (x : qt5) (m : qt2) : Int32 × qt6 × qt2 := Classical.choose (⟨_, rfl⟩ : ∃ z : Int32 × qt6 × qt2, z = (if (qg6_spilled (((fk8_span 9).1 ((fn6_empty 1000 t).2) x m (0 : Int32) (qg5_count x) (0 : Int32)).1)) = 0 then ((1 : Int32), ((fk8_span 9).1 ((fn6_empty 1000 t).2) x m (0 : Int32) (qg5_count x) (0 : Int32)).1, ((fk8_span 9).1 ((fn6_empty 1000 t).2) x m (0 : Int32) (qg5_count x) (0 : Int32)).2) else ((0 : Int32), (fn6_empty 1000 (((fk8_span 9).1 ((fn6_empty 1000 t).2) x m (0 : Int32) (qg5_count x) (0 : Int32)).1)).2, ((fk8_span 9).1 ((fn6_empty 1000 t).2) x m (0 : Int32) (qg5_count x) (0 : Int32)).2)))
theorem fq8_fill (t : qt6) (x : qt5) (m : qt2) : fn8_fill t x m = (if (qg6_spilled (((fk8_span 9).1 ((fn6_empty 1000 t).2) x m (0 : Int32) (qg5_count x) (0 : Int32)).1)) = 0 then ((1 : Int32), ((fk8_span 9).1 ((fn6_empty 1000 t).2) x m (0 : Int32) (qg5_count x) (0 : Int32)).1, ((fk8_span 9).1 ((fn6_empty 1000 t).2) x m (0 : Int32) (qg5_count x) (0 : Int32)).2) else ((0 : Int32), (fn6_empty 1000 (((fk8_span 9).1 ((fn6_empty 1000 t).2) x m (0 : Int32) (qg5_count x) (0 : Int32)).1)).2, ((fk8_span 9).1 ((fn6_empty 1000 t).2) x m (0 : Int32) (qg5_count x) (0 : Int32)).2)) := Classical.choose_spec (⟨_, rfl⟩ : ∃ z : Int32 × qt6 × qt2, z = (if (qg6_spilled (((fk8_span 9).1 ((fn6_empty 1000 t).2) x m (0 : Int32) (qg5_count x) (0 : Int32)).1)) = 0 then ((1 : Int32), ((fk8_span 9).1 ((fn6_empty 1000 t).2) x m (0 : Int32) (qg5_count x) (0 : Int32)).1, ((fk8_span 9).1 ((fn6_empty 1000 t).2) x m (0 : Int32) (qg5_count x) (0 : Int32)).2) else ((0 : Int32), (fn6_empty 1000 (((fk8_span 9).1 ((fn6_empty 1000 t).2) x m (0 : Int32) (qg5_count x) (0 : Int32)).1)).2, ((fk8_span 9).1 ((fn6_empty 1000 t).2) x m (0 : Int32) (qg5_count x) (0 : Int32)).2)))
def wp8_fill (t : qt6) (x : qt5) (m : qt2) : Prop := ((wp6_empty 1000 t) ∧ (((fk8_span 9).2 ((fn6_empty 1000 t).2) x m (0 : Int32) (qg5_count x) (0 : Int32)) ∧ (((qg6_spilled (((fk8_span 9).1 ((fn6_empty 1000 t).2) x m (0 : Int32) (qg5_count x) (0 : Int32)).1)) = 0 → True) ∧ (¬ (qg6_spilled (((fk8_span 9).1 ((fn6_empty 1000 t).2) x m (0 : Int32) (qg5_count x) (0 : Int32)).1)) = 0 → (wp6_empty 1000 (((fk8_span 9).1 ((fn6_empty 1000 t).2) x m (0 : Int32) (qg5_count x) (0 : Int32)).1))))))
set_option maxRecDepth 100000 in
set_option maxHeartbeats 4000000 in
theorem re8_fill (t : qt6) (x : qt5) (m : qt2) (hp : wp8_fill t x m) : am_lf (am_mk kb8_fill 0 0 16) [] (0, am_L0 [.inr (.inl 0), .inr (.inl 3), .inr (.inl 11)] 3, [], (kw_W t x m), 0, 0) = some (some (.inl ((fn8_fill t x m).1)), (kw_W ((fn8_fill t x m).2.1) x ((fn8_fill t x m).2.2))) := by
  unfold wp8_fill at hp
  refine am_lf_eq ?_
  generalize am_lf (am_mk kb8_fill 0 0 16) [] = kt
  refine am_cy (pre := pr6_empty) (f := fm6_empty) (a' := [.inr (.inl 0)]) (wc := (kw_T 1000 t)) (w' := (kw_W ((fn6_empty 1000 t).2) x m)) (r := (some (.inl ((fn6_empty 1000 t).1)), (kw_T 1000 ((fn6_empty 1000 t).2)), 0, 0)) ?_ ?_ ?_ ?_ ?_ ?_ ?_ ?_ ?_ ?_
  · exact ks_W_T_1_o t x m
  · rfl
  · rfl
  · exact ks_W_T_1_s t x m
  · exact ⟨1000, t, rfl, rfl, hp.1⟩
  · exact fe6_empty 1000 t
  · exact kwl_T 1000 ((fn6_empty 1000 t).2)
  · rfl
  · exact ks_W_T_1_m t x m ((fn6_empty 1000 t).2)
  refine am_cx (pre := pr8_spanA (fk8_span 9).2) (f := fm8_spanA (fk8_span 9).1) (r := (none, (kw_W (((fk8_span 9).1 ((fn6_empty 1000 t).2) x m (0 : Int32) (qg5_count x) (0 : Int32)).1) x (((fk8_span 9).1 ((fn6_empty 1000 t).2) x m (0 : Int32) (qg5_count x) (0 : Int32)).2)), 0, 0)) ?_ ?_ ?_ ?_
  · exact ⟨(fn6_empty 1000 t).2, x, m, (0 : Int32), (qg5_count x), (0 : Int32), rfl, rfl, hp.2.1⟩
  · exact fe8_spanA (fk8_span 9).1 ((fn6_empty 1000 t).2) x m (0 : Int32) (qg5_count x) (0 : Int32)
  · exact rfl
  refine am_if (c := (qg6_spilled (((fk8_span 9).1 ((fn6_empty 1000 t).2) x m (0 : Int32) (qg5_count x) (0 : Int32)).1)) = 0) (fun h1 => ?_) (fun h1 => ?_)
  · have e : fn8_fill t x m = ((1 : Int32), ((fk8_span 9).1 ((fn6_empty 1000 t).2) x m (0 : Int32) (qg5_count x) (0 : Int32)).1, ((fk8_span 9).1 ((fn6_empty 1000 t).2) x m (0 : Int32) (qg5_count x) (0 : Int32)).2) := by
      rw [fq8_fill]
      rw [if_pos h1]
    rw [e] <;> rfl
  · have q1 := hp.2.2.2 h1
    refine am_cy (pre := pr6_empty) (f := fm6_empty) (a' := [.inr (.inl 0)]) (wc := (kw_T 1000 (((fk8_span 9).1 ((fn6_empty 1000 t).2) x m (0 : Int32) (qg5_count x) (0 : Int32)).1))) (w' := (kw_W ((fn6_empty 1000 (((fk8_span 9).1 ((fn6_empty 1000 t).2) x m (0 : Int32) (qg5_count x) (0 : Int32)).1)).2) x (((fk8_span 9).1 ((fn6_empty 1000 t).2) x m (0 : Int32) (qg5_count x) (0 : Int32)).2))) (r := (some (.inl ((fn6_empty 1000 (((fk8_span 9).1 ((fn6_empty 1000 t).2) x m (0 : Int32) (qg5_count x) (0 : Int32)).1)).1)), (kw_T 1000 ((fn6_empty 1000 (((fk8_span 9).1 ((fn6_empty 1000 t).2) x m (0 : Int32) (qg5_count x) (0 : Int32)).1)).2)), 0, 0)) ?_ ?_ ?_ ?_ ?_ ?_ ?_ ?_ ?_ ?_
    · exact ks_W_T_1_o (((fk8_span 9).1 ((fn6_empty 1000 t).2) x m (0 : Int32) (qg5_count x) (0 : Int32)).1) x (((fk8_span 9).1 ((fn6_empty 1000 t).2) x m (0 : Int32) (qg5_count x) (0 : Int32)).2)
    · rfl
    · rfl
    · exact ks_W_T_1_s (((fk8_span 9).1 ((fn6_empty 1000 t).2) x m (0 : Int32) (qg5_count x) (0 : Int32)).1) x (((fk8_span 9).1 ((fn6_empty 1000 t).2) x m (0 : Int32) (qg5_count x) (0 : Int32)).2)
    · exact ⟨1000, ((fk8_span 9).1 ((fn6_empty 1000 t).2) x m (0 : Int32) (qg5_count x) (0 : Int32)).1, rfl, rfl, q1⟩
    · exact fe6_empty 1000 (((fk8_span 9).1 ((fn6_empty 1000 t).2) x m (0 : Int32) (qg5_count x) (0 : Int32)).1)
    · exact kwl_T 1000 ((fn6_empty 1000 (((fk8_span 9).1 ((fn6_empty 1000 t).2) x m (0 : Int32) (qg5_count x) (0 : Int32)).1)).2)
    · rfl
    · exact ks_W_T_1_m (((fk8_span 9).1 ((fn6_empty 1000 t).2) x m (0 : Int32) (qg5_count x) (0 : Int32)).1) x (((fk8_span 9).1 ((fn6_empty 1000 t).2) x m (0 : Int32) (qg5_count x) (0 : Int32)).2) ((fn6_empty 1000 (((fk8_span 9).1 ((fn6_empty 1000 t).2) x m (0 : Int32) (qg5_count x) (0 : Int32)).1)).2)
    have e : fn8_fill t x m = ((0 : Int32), (fn6_empty 1000 (((fk8_span 9).1 ((fn6_empty 1000 t).2) x m (0 : Int32) (qg5_count x) (0 : Int32)).1)).2, ((fk8_span 9).1 ((fn6_empty 1000 t).2) x m (0 : Int32) (qg5_count x) (0 : Int32)).2) := by
      rw [fq8_fill]
      rw [if_neg h1]
    rw [e] <;> rfl
abbrev pr8_fill : List am_V → List am_C → Prop := fun a w => ∃ (t : qt6) (x : qt5) (m : qt2), a = [.inr (.inl 0), .inr (.inl 3), .inr (.inl 11)] ∧ w = (kw_W t x m) ∧ wp8_fill t x m
noncomputable def fm8_fill : am_M := fun a w => (fun (z : Int32 × qt6 × qt2) => (some (.inl (z.1)), (kw_W (z.2.1) (qs5 w 3) (z.2.2)), 0, 0)) (fn8_fill (qs6 w 1) (qs5 w 3) (qs2 w 11))
theorem fe8_fill (t : qt6) (x : qt5) (m : qt2) : fm8_fill [.inr (.inl 0), .inr (.inl 3), .inr (.inl 11)] (kw_W t x m) = (some (.inl ((fn8_fill t x m).1)), (kw_W ((fn8_fill t x m).2.1) x ((fn8_fill t x m).2.2)), 0, 0) := rfl
set_option maxRecDepth 100000 in
set_option maxHeartbeats 4000000 in
theorem rn8_fill : ∀ (a : List am_V) (w : List am_C), pr8_fill a w → ∃ nq, am_ev (am_mk kb8_fill (fm8_fill a w).2.2.1 (fm8_fill a w).2.2.2 w.length) [] nq (0, am_L0 a 3, [], w, 0, 0) = some ((fm8_fill a w).1, (fm8_fill a w).2.1) := by
  rintro a w ⟨t, x, m, rfl, rfl, hp⟩
  rw [fe8_fill t x m]
  exact am_lf_ev (re8_fill t x m hp)
theorem rl8_fill : ∀ (a : List am_V) (w : List am_C), pr8_fill a w → a.length ≤ 3 := by
  rintro a w ⟨t, x, m, rfl, rfl, hp⟩
  exact Nat.le_of_ble_eq_true rfl
theorem pa8_fill : ∀ a w, pr8_fill a w → ∃ q a' ci fs r, a = .inr (.inl q) :: a' ∧ w[q]? = some (.inr (ci, fs)) ∧ hn_cl[ci]? = some r ∧ r.1 = hn_R8 := by
  rintro a w ⟨t, x, m, rfl, rfl, hp⟩
  exact ⟨0, _, 8, _, _, rfl, rfl, rfl, rfl⟩
set_option maxRecDepth 100000 in
set_option maxHeartbeats 4000000 in
theorem km8_fill {l : Launch} {E : (Nat → Prop) → State → Prop} {D : va_G} {ou : Nat → Nat} {ca : Nat → ClassId} (hE : hg_E E ou) : hg_Met l E D ou ca hy8_fill prog_10_method_2_code 3 (some .boolean) 39 pr8_fill fm8_fill := by
  refine am_met (B := kb8_fill) (cuts := []) (nt := 5) (by decide +kernel) rfl rfl (hg_tys_ok ca) ?_ (by decide) rl8_fill ?_ rn8_fill
  · exact fun t ht => List.mem_cons_of_mem _ (hg_arr t ht)
  · intro a w hp ad p e R s m args below meth c hR X hEs hnm
    have hR1 : 39 ≤ R.frames ∧ 1560 ≤ R.locals := by rw [hR]; exact ⟨Nat.le_refl _, Nat.le_refl _⟩
    have hN := hE.2.1 _ _ hEs
    refine ⟨kd8_fill_ok, fun index ci fi mode hq => kf8_ok X.2.2.2.2.1 hN.1 (index, ci, fi, mode) (am_as_mem hq), fun index ci fs hq => (am_no hq).elim, fun x v hq => (am_no hq).elim, ?_, fun o t n f hq => (am_no hq).elim, rfl, rfl, by rw [hR]; exact Nat.le_refl _, by rw [hR]; exact Nat.le_refl _⟩
    intro pc sel n0 pre0 f0 hq
    have hz : ∀ q ∈ ki8_fill, am_CK p l e R s m args below meth c D hn_cl (va_A (am_w ad ou ca w) s.heap.size) ou ca 3 q.1 q.2.2.1 q.2.2.2.1 q.2.2.2.2 := by
      refine am_allc (am_ck_V (n := 0) X hEs hE.1 (km6_empty hE) (hg_good (gw_mem 298 (by decide +kernel))) rfl (List.mem_cons_of_mem _ (gw_mem 69 (by decide +kernel))) (List.mem_cons_of_mem _ (gw_mem 768 (by decide +kernel))) (List.mem_cons_of_mem _ (gw_mem 296 (by decide +kernel))) (List.mem_cons_of_mem _ (gw_mem 297 (by decide +kernel))) pa6_empty (by decide +kernel) ⟨Nat.le_trans (by decide) hR1.1, Nat.le_trans (by decide) hR1.2⟩ (kd8_fill_ok (4, .invokevirtual 20, 3) (List.mem_of_getElem? (i := 2) rfl))) (am_allc (am_ck_V (n := 5) X hEs hE.1 (km8_span 9 hE) (hg_good (gw_mem 772 (by decide +kernel))) rfl (List.mem_cons_of_mem _ (gw_mem 75 (by decide +kernel))) (List.mem_cons_of_mem _ (gw_mem 769 (by decide +kernel))) (List.mem_cons_of_mem _ (gw_mem 771 (by decide +kernel))) (List.mem_cons_of_mem _ (gw_mem 10 (by decide +kernel))) (pa8_spanA (fk8_span 9).2) (by decide +kernel) ⟨Nat.le_trans (by decide) hR1.1, Nat.le_trans (by decide) hR1.2⟩ (kd8_fill_ok (17, .invokevirtual 30, 3) (List.mem_of_getElem? (i := 11) rfl))) (am_allc (am_ck_V (n := 0) X hEs hE.1 (km6_empty hE) (hg_good (gw_mem 298 (by decide +kernel))) rfl (List.mem_cons_of_mem _ (gw_mem 69 (by decide +kernel))) (List.mem_cons_of_mem _ (gw_mem 768 (by decide +kernel))) (List.mem_cons_of_mem _ (gw_mem 296 (by decide +kernel))) (List.mem_cons_of_mem _ (gw_mem 297 (by decide +kernel))) pa6_empty (by decide +kernel) ⟨Nat.le_trans (by decide) hR1.1, Nat.le_trans (by decide) hR1.2⟩ (kd8_fill_ok (34, .invokevirtual 20, 3) (List.mem_of_getElem? (i := 18) rfl))) (am_all0)))
    exact hz _ (am_as_mem hq)
