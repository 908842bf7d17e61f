/-! the recursion span, choice, loop: over a meaning K and a premise KP of span -/
abbrev pr8_spanA (KP : qt6 → qt5 → qt2 → Int32 → Int32 → Int32 → Prop) : List am_V → List am_C → Prop := fun a w => ∃ (t : qt6) (x : qt5) (m : qt2) (p2 : Int32) (p3 : Int32) (p4 : Int32), a = [.inr (.inl 0), .inr (.inl 3), .inr (.inl 11), .inl p2, .inl p3, .inl p4] ∧ w = (kw_W t x m) ∧ KP t x m p2 p3 p4
noncomputable def fm8_spanA (K : qt6 → qt5 → qt2 → Int32 → Int32 → Int32 → qt6 × qt2) : am_M := fun a w => (fun (z : qt6 × qt2) => (none, (kw_W (z.1) (qs5 w 3) (z.2)), 0, 0)) (K (qs6 w 1) (qs5 w 3) (qs2 w 11) (am_i (am_an a 3)) (am_i (am_an a 4)) (am_i (am_an a 5)))
theorem fe8_spanA (K : qt6 → qt5 → qt2 → Int32 → Int32 → Int32 → qt6 × qt2) (t : qt6) (x : qt5) (m : qt2) (p2 : Int32) (p3 : Int32) (p4 : Int32) : fm8_spanA K [.inr (.inl 0), .inr (.inl 3), .inr (.inl 11), .inl p2, .inl p3, .inl p4] (kw_W t x m) = (none, (kw_W ((K t x m p2 p3 p4).1) x ((K t x m p2 p3 p4).2)), 0, 0) := rfl
theorem pa8_spanA (KP : qt6 → qt5 → qt2 → Int32 → Int32 → Int32 → Prop) : ∀ a w, pr8_spanA KP a w → ∃ q a' ci fs r, a = .inr (.inl q) :: a' ∧ w[q]? = some (.inr (ci, fs)) ∧ hn_cl[ci]? = some r ∧ r.1 = hn_R8 := by
  rintro a w ⟨t, x, m, p2, p3, p4, rfl, rfl, hp⟩
  exact ⟨0, _, 8, _, _, rfl, rfl, rfl, rfl⟩
noncomputable def ki8_choice (K : qt6 → qt5 → qt2 → Int32 → Int32 → Int32 → qt6 × qt2) (KP : qt6 → qt5 → qt2 → Int32 → Int32 → Int32 → Prop) : List (Nat × Option (List Nat) × Nat × (List am_V → List am_C → Prop) × am_M) := [(4, some [3, 4, 5, 6, 7, 8, 9, 10], 2, pr5_variable, fm5_variable), (7, some [11, 12, 13, 14, 15], 2, pr2_first, fm2_first), (10, some [11, 12, 13, 14, 15], 2, pr2_length, fm2_length), (24, some [3, 4, 5, 6, 7, 8, 9, 10], 2, pr5_turn, fm5_turn), (31, none, 6, pr8_spanA KP, fm8_spanA K), (42, some [3, 4, 5, 6, 7, 8, 9, 10], 2, pr5_turn, fm5_turn), (49, some [3, 4, 5, 6, 7, 8, 9, 10], 2, pr5_close, fm5_close), (56, none, 6, pr8_spanA KP, fm8_spanA K)]
noncomputable def kb8_choice (K : qt6 → qt5 → qt2 → Int32 → Int32 → Int32 → qt6 × qt2) (KP : qt6 → qt5 → qt2 → Int32 → Int32 → Int32 → Prop) : am_B := (kd8_choice, am_as kf8, hn_ty, fun _ => none, fun _ => none, am_as (ki8_choice K KP), fun _ => none, 5, 5, none)
noncomputable def fn8_choice (K : qt6 → qt5 → qt2 → Int32 → Int32 → Int32 → qt6 × qt2) (KP : qt6 → qt5 → qt2 → Int32 → Int32 → Int32 → Prop) (t : qt6) (x : qt5) (m : qt2) (p2 : Int32) (p3 : Int32) : qt6 × qt2 := Classical.choose (⟨_, rfl⟩ : ∃ z : qt6 × qt2, z = (if (fn2_length m (fn2_first m (fn5_variable x p2))) ≤ 0 then ((K t x m ((fn5_turn x p2) + (1 : Int32)) (fn5_close x p2) (p3 + (1 : Int32))).1, (K t x m ((fn5_turn x p2) + (1 : Int32)) (fn5_close x p2) (p3 + (1 : Int32))).2) else ((K t x m (p2 + (1 : Int32)) (fn5_turn x p2) (p3 + (1 : Int32))).1, (K t x m (p2 + (1 : Int32)) (fn5_turn x p2) (p3 + (1 : Int32))).2)))
theorem fq8_choice (K : qt6 → qt5 → qt2 → Int32 → Int32 → Int32 → qt6 × qt2) (KP : qt6 → qt5 → qt2 → Int32 → Int32 → Int32 → Prop) (t : qt6) (x : qt5) (m : qt2) (p2 : Int32) (p3 : Int32) : fn8_choice K KP t x m p2 p3 = (if (fn2_length m (fn2_first m (fn5_variable x p2))) ≤ 0 then ((K t x m ((fn5_turn x p2) + (1 : Int32)) (fn5_close x p2) (p3 + (1 : Int32))).1, (K t x m ((fn5_turn x p2) + (1 : Int32)) (fn5_close x p2) (p3 + (1 : Int32))).2) else ((K t x m (p2 + (1 : Int32)) (fn5_turn x p2) (p3 + (1 : Int32))).1, (K t x m (p2 + (1 : Int32)) (fn5_turn x p2) (p3 + (1 : Int32))).2)) := Classical.choose_spec (⟨_, rfl⟩ : ∃ z : qt6 × qt2, z = (if (fn2_length m (fn2_first m (fn5_variable x p2))) ≤ 0 then ((K t x m ((fn5_turn x p2) + (1 : Int32)) (fn5_close x p2) (p3 + (1 : Int32))).1, (K t x m ((fn5_turn x p2) + (1 : Int32)) (fn5_close x p2) (p3 + (1 : Int32))).2) else ((K t x m (p2 + (1 : Int32)) (fn5_turn x p2) (p3 + (1 : Int32))).1, (K t x m (p2 + (1 : Int32)) (fn5_turn x p2) (p3 + (1 : Int32))).2)))
def wp8_choice (K : qt6 → qt5 → qt2 → Int32 → Int32 → Int32 → qt6 × qt2) (KP : qt6 → qt5 → qt2 → Int32 → Int32 → Int32 → Prop) (t : qt6) (x : qt5) (m : qt2) (p2 : Int32) (p3 : Int32) : Prop := ((wp5_variable x p2) ∧ ((wp2_first m (fn5_variable x p2)) ∧ ((wp2_length m (fn2_first m (fn5_variable x p2))) ∧ (((fn2_length m (fn2_first m (fn5_variable x p2))) ≤ 0 → ((wp5_turn x p2) ∧ ((wp5_close x p2) ∧ (KP t x m ((fn5_turn x p2) + (1 : Int32)) (fn5_close x p2) (p3 + (1 : Int32)))))) ∧ (¬ (fn2_length m (fn2_first m (fn5_variable x p2))) ≤ 0 → ((wp5_turn x p2) ∧ (KP t x m (p2 + (1 : Int32)) (fn5_turn x p2) (p3 + (1 : Int32)))))))))
set_option maxRecDepth 100000 in
set_option maxHeartbeats 4000000 in
theorem re8_choice (K : qt6 → qt5 → qt2 → Int32 → Int32 → Int32 → qt6 × qt2) (KP : qt6 → qt5 → qt2 → Int32 → Int32 → Int32 → Prop) (t : qt6) (x : qt5) (m : qt2) (p2 : Int32) (p3 : Int32) (hp : wp8_choice K KP t x m p2 p3) : am_lf (am_mk (kb8_choice K KP) 0 0 16) [] (0, am_L0 [.inr (.inl 0), .inr (.inl 3), .inr (.inl 11), .inl p2, .inl p3] 5, [], (kw_W t x m), 0, 0) = some (none, (kw_W ((fn8_choice K KP t x m p2 p3).1) x ((fn8_choice K KP t x m p2 p3).2))) := by
  unfold wp8_choice at hp
  refine am_lf_eq ?_
  generalize am_lf (am_mk (kb8_choice K KP) 0 0 16) [] = kt
  refine am_cy (pre := pr5_variable) (f := fm5_variable) (a' := [.inr (.inl 0), .inl p2]) (wc := (kw_S x)) (w' := (kw_W t x m)) (r := (some (.inl (fn5_variable x p2)), (kw_S x), 0, 0)) ?_ ?_ ?_ ?_ ?_ ?_ ?_ ?_ ?_ ?_
  · exact ks_W_S_2_o t x m
  · rfl
  · rfl
  · exact ks_W_S_2_s t x m
  · exact ⟨x, p2, rfl, rfl, hp.1⟩
  · exact fe5_variable x p2
  · exact kwl_S x
  · rfl
  · exact ks_W_S_2_m t x m x
  refine am_cy (pre := pr2_first) (f := fm2_first) (a' := [.inr (.inl 0), .inl (fn5_variable x p2)]) (wc := (kw_I m)) (w' := (kw_W t x m)) (r := (some (.inl (fn2_first m (fn5_variable x p2))), (kw_I m), 0, 0)) ?_ ?_ ?_ ?_ ?_ ?_ ?_ ?_ ?_ ?_
  · exact ks_W_I_3_o t x m
  · rfl
  · rfl
  · exact ks_W_I_3_s t x m
  · exact ⟨m, (fn5_variable x p2), rfl, rfl, hp.2.1⟩
  · exact fe2_first m (fn5_variable x p2)
  · exact kwl_I m
  · rfl
  · exact ks_W_I_3_m t x m m
  refine am_cy (pre := pr2_length) (f := fm2_length) (a' := [.inr (.inl 0), .inl (fn2_first m (fn5_variable x p2))]) (wc := (kw_I m)) (w' := (kw_W t x m)) (r := (some (.inl (fn2_length m (fn2_first m (fn5_variable x p2)))), (kw_I m), 0, 0)) ?_ ?_ ?_ ?_ ?_ ?_ ?_ ?_ ?_ ?_
  · exact ks_W_I_3_o t x m
  · rfl
  · rfl
  · exact ks_W_I_3_s t x m
  · exact ⟨m, (fn2_first m (fn5_variable x p2)), rfl, rfl, hp.2.2.1⟩
  · exact fe2_length m (fn2_first m (fn5_variable x p2))
  · exact kwl_I m
  · rfl
  · exact ks_W_I_3_m t x m m
  refine am_if (c := (fn2_length m (fn2_first m (fn5_variable x p2))) ≤ 0) (fun h1 => ?_) (fun h1 => ?_)
  · have q1 := hp.2.2.2.1 h1
    refine am_cy (pre := pr5_turn) (f := fm5_turn) (a' := [.inr (.inl 0), .inl p2]) (wc := (kw_S x)) (w' := (kw_W t x m)) (r := (some (.inl (fn5_turn x p2)), (kw_S x), 0, 0)) ?_ ?_ ?_ ?_ ?_ ?_ ?_ ?_ ?_ ?_
    · exact ks_W_S_2_o t x m
    · rfl
    · rfl
    · exact ks_W_S_2_s t x m
    · exact ⟨x, p2, rfl, rfl, q1.1⟩
    · exact fe5_turn x p2
    · exact kwl_S x
    · rfl
    · exact ks_W_S_2_m t x m x
    refine am_cy (pre := pr5_close) (f := fm5_close) (a' := [.inr (.inl 0), .inl p2]) (wc := (kw_S x)) (w' := (kw_W t x m)) (r := (some (.inl (fn5_close x p2)), (kw_S x), 0, 0)) ?_ ?_ ?_ ?_ ?_ ?_ ?_ ?_ ?_ ?_
    · exact ks_W_S_2_o t x m
    · rfl
    · rfl
    · exact ks_W_S_2_s t x m
    · exact ⟨x, p2, rfl, rfl, q1.2.1⟩
    · exact fe5_close x p2
    · exact kwl_S x
    · rfl
    · exact ks_W_S_2_m t x m x
    refine am_cx (pre := pr8_spanA KP) (f := fm8_spanA K) (r := (none, (kw_W ((K t x m ((fn5_turn x p2) + (1 : Int32)) (fn5_close x p2) (p3 + (1 : Int32))).1) x ((K t x m ((fn5_turn x p2) + (1 : Int32)) (fn5_close x p2) (p3 + (1 : Int32))).2)), 0, 0)) ?_ ?_ ?_ ?_
    · exact ⟨t, x, m, ((fn5_turn x p2) + (1 : Int32)), (fn5_close x p2), (p3 + (1 : Int32)), rfl, rfl, q1.2.2⟩
    · exact fe8_spanA K t x m ((fn5_turn x p2) + (1 : Int32)) (fn5_close x p2) (p3 + (1 : Int32))
    · exact rfl
    have e : fn8_choice K KP t x m p2 p3 = ((K t x m ((fn5_turn x p2) + (1 : Int32)) (fn5_close x p2) (p3 + (1 : Int32))).1, (K t x m ((fn5_turn x p2) + (1 : Int32)) (fn5_close x p2) (p3 + (1 : Int32))).2) := by
      rw [fq8_choice]
      rw [if_pos h1]
    rw [e] <;> rfl
  · have q1 := hp.2.2.2.2 h1
    refine am_cy (pre := pr5_turn) (f := fm5_turn) (a' := [.inr (.inl 0), .inl p2]) (wc := (kw_S x)) (w' := (kw_W t x m)) (r := (some (.inl (fn5_turn x p2)), (kw_S x), 0, 0)) ?_ ?_ ?_ ?_ ?_ ?_ ?_ ?_ ?_ ?_
    · exact ks_W_S_2_o t x m
    · rfl
    · rfl
    · exact ks_W_S_2_s t x m
    · exact ⟨x, p2, rfl, rfl, q1.1⟩
    · exact fe5_turn x p2
    · exact kwl_S x
    · rfl
    · exact ks_W_S_2_m t x m x
    refine am_cx (pre := pr8_spanA KP) (f := fm8_spanA K) (r := (none, (kw_W ((K t x m (p2 + (1 : Int32)) (fn5_turn x p2) (p3 + (1 : Int32))).1) x ((K t x m (p2 + (1 : Int32)) (fn5_turn x p2) (p3 + (1 : Int32))).2)), 0, 0)) ?_ ?_ ?_ ?_
    · exact ⟨t, x, m, (p2 + (1 : Int32)), (fn5_turn x p2), (p3 + (1 : Int32)), rfl, rfl, q1.2⟩
    · exact fe8_spanA K t x m (p2 + (1 : Int32)) (fn5_turn x p2) (p3 + (1 : Int32))
    · exact rfl
    have e : fn8_choice K KP t x m p2 p3 = ((K t x m (p2 + (1 : Int32)) (fn5_turn x p2) (p3 + (1 : Int32))).1, (K t x m (p2 + (1 : Int32)) (fn5_turn x p2) (p3 + (1 : Int32))).2) := by
      rw [fq8_choice]
      rw [if_neg h1]
    rw [e] <;> rfl
abbrev pr8_choice (K : qt6 → qt5 → qt2 → Int32 → Int32 → Int32 → qt6 × qt2) (KP : qt6 → qt5 → qt2 → Int32 → Int32 → Int32 → Prop) : List am_V → List am_C → Prop := fun a w => ∃ (t : qt6) (x : qt5) (m : qt2) (p2 : Int32) (p3 : Int32), a = [.inr (.inl 0), .inr (.inl 3), .inr (.inl 11), .inl p2, .inl p3] ∧ w = (kw_W t x m) ∧ wp8_choice K KP t x m p2 p3
noncomputable def fm8_choice (K : qt6 → qt5 → qt2 → Int32 → Int32 → Int32 → qt6 × qt2) (KP : qt6 → qt5 → qt2 → Int32 → Int32 → Int32 → Prop) : am_M := fun a w => (fun (z : qt6 × qt2) => (none, (kw_W (z.1) (qs5 w 3) (z.2)), 0, 0)) (fn8_choice K KP (qs6 w 1) (qs5 w 3) (qs2 w 11) (am_i (am_an a 3)) (am_i (am_an a 4)))
theorem fe8_choice (K : qt6 → qt5 → qt2 → Int32 → Int32 → Int32 → qt6 × qt2) (KP : qt6 → qt5 → qt2 → Int32 → Int32 → Int32 → Prop) (t : qt6) (x : qt5) (m : qt2) (p2 : Int32) (p3 : Int32) : fm8_choice K KP [.inr (.inl 0), .inr (.inl 3), .inr (.inl 11), .inl p2, .inl p3] (kw_W t x m) = (none, (kw_W ((fn8_choice K KP t x m p2 p3).1) x ((fn8_choice K KP t x m p2 p3).2)), 0, 0) := rfl
set_option maxRecDepth 100000 in
set_option maxHeartbeats 4000000 in
theorem rn8_choice (K : qt6 → qt5 → qt2 → Int32 → Int32 → Int32 → qt6 × qt2) (KP : qt6 → qt5 → qt2 → Int32 → Int32 → Int32 → Prop) : ∀ (a : List am_V) (w : List am_C), pr8_choice K KP a w → ∃ nq, am_ev (am_mk (kb8_choice K KP) (fm8_choice K KP a w).2.2.1 (fm8_choice K KP a w).2.2.2 w.length) [] nq (0, am_L0 a 5, [], w, 0, 0) = some ((fm8_choice K KP a w).1, (fm8_choice K KP a w).2.1) := by
  rintro a w ⟨t, x, m, p2, p3, rfl, rfl, hp⟩
  rw [fe8_choice K KP t x m p2 p3]
  exact am_lf_ev (re8_choice K KP t x m p2 p3 hp)
theorem rl8_choice (K : qt6 → qt5 → qt2 → Int32 → Int32 → Int32 → qt6 × qt2) (KP : qt6 → qt5 → qt2 → Int32 → Int32 → Int32 → Prop) : ∀ (a : List am_V) (w : List am_C), pr8_choice K KP a w → a.length ≤ 5 := by
  rintro a w ⟨t, x, m, p2, p3, rfl, rfl, hp⟩
  exact Nat.le_of_ble_eq_true rfl
theorem pa8_choice (K : qt6 → qt5 → qt2 → Int32 → Int32 → Int32 → qt6 × qt2) (KP : qt6 → qt5 → qt2 → Int32 → Int32 → Int32 → Prop) : ∀ a w, pr8_choice K KP a w → ∃ q a' ci fs r, a = .inr (.inl q) :: a' ∧ w[q]? = some (.inr (ci, fs)) ∧ hn_cl[ci]? = some r ∧ r.1 = hn_R8 := by
  rintro a w ⟨t, x, m, p2, p3, rfl, rfl, hp⟩
  exact ⟨0, _, 8, _, _, rfl, rfl, rfl, rfl⟩
set_option maxRecDepth 100000 in
set_option maxHeartbeats 4000000 in
theorem km8_choice {l : Launch} {E : (Nat → Prop) → State → Prop} {D : va_G} {ou : Nat → Nat} {ca : Nat → ClassId} {K : qt6 → qt5 → qt2 → Int32 → Int32 → Int32 → qt6 × qt2} {KP : qt6 → qt5 → qt2 → Int32 → Int32 → Int32 → Prop} {h : Nat} (hE : hg_E E ou) (hh : 20 ≤ h) (hM : hg_Met l E D ou ca hy8_span prog_10_method_3_code 7 none h (pr8_spanA KP) (fm8_spanA K)) : hg_Met l E D ou ca hy8_choice prog_10_method_4_code 5 none (h + 1) (pr8_choice K KP) (fm8_choice K KP) := by
  refine am_met (B := (kb8_choice K KP)) (cuts := []) (nt := 5) (by decide +kernel) rfl rfl (hg_tys_ok ca) ?_ (by decide) (rl8_choice K KP) ?_ (rn8_choice K KP)
  · exact fun t ht => List.mem_cons_of_mem _ (hg_arr t ht)
  · intro a w hp ad p e R s m args below meth c hR X hEs hnm
    have hR1 : (h + 1) ≤ R.frames ∧ 40 * (h + 1) ≤ R.locals := by rw [hR]; exact ⟨Nat.le_refl _, Nat.le_refl _⟩
    have hN := hE.2.1 _ _ hEs
    refine ⟨kd8_choice_ok, fun index ci fi mode hq => kf8_ok X.2.2.2.2.1 hN.1 (index, ci, fi, mode) (am_as_mem hq), fun index ci fs hq => (am_no hq).elim, fun x v hq => (am_no hq).elim, ?_, fun o t n f hq => (am_no hq).elim, rfl, rfl, by rw [hR]; exact Nat.le_refl _, by rw [hR]; exact Nat.le_refl _⟩
    intro pc sel n0 pre0 f0 hq
    have hz : ∀ q ∈ (ki8_choice K KP), am_CK p l e R s m args below meth c D hn_cl (va_A (am_w ad ou ca w) s.heap.size) ou ca 5 q.1 q.2.2.1 q.2.2.2.1 q.2.2.2.2 := by
      refine am_allc (am_ck_V (n := 1) X hEs hE.1 (km5_variable hE) (hg_good (gw_mem 779 (by decide +kernel))) rfl (List.mem_cons_of_mem _ (gw_mem 73 (by decide +kernel))) (List.mem_cons_of_mem _ (gw_mem 776 (by decide +kernel))) (List.mem_cons_of_mem _ (gw_mem 777 (by decide +kernel))) (List.mem_cons_of_mem _ (gw_mem 778 (by decide +kernel))) pa5_variable (by decide +kernel) ⟨by have := hR1.1; omega, by have := hR1.2; omega⟩ (kd8_choice_ok (4, .invokevirtual 50, 3) (List.mem_of_getElem? (i := 4) rfl))) (am_allc (am_ck_V (n := 1) X hEs hE.1 (km2_first hE) (hg_good (gw_mem 783 (by decide +kernel))) rfl (List.mem_cons_of_mem _ (gw_mem 71 (by decide +kernel))) (List.mem_cons_of_mem _ (gw_mem 780 (by decide +kernel))) (List.mem_cons_of_mem _ (gw_mem 781 (by decide +kernel))) (List.mem_cons_of_mem _ (gw_mem 782 (by decide +kernel))) pa2_first (by decide +kernel) ⟨by have := hR1.1; omega, by have := hR1.2; omega⟩ (kd8_choice_ok (7, .invokevirtual 53, 3) (List.mem_of_getElem? (i := 5) rfl))) (am_allc (am_ck_V (n := 1) X hEs hE.1 (km2_length hE) (hg_good (gw_mem 805 (by decide +kernel))) rfl (List.mem_cons_of_mem _ (gw_mem 71 (by decide +kernel))) (List.mem_cons_of_mem _ (gw_mem 941 (by decide +kernel))) (List.mem_cons_of_mem _ (gw_mem 803 (by decide +kernel))) (List.mem_cons_of_mem _ (gw_mem 804 (by decide +kernel))) pa2_length (by decide +kernel) ⟨by have := hR1.1; omega, by have := hR1.2; omega⟩ (kd8_choice_ok (10, .invokevirtual 82, 3) (List.mem_of_getElem? (i := 6) rfl))) (am_allc (am_ck_V (n := 1) X hEs hE.1 (km5_turn hE) (hg_good (gw_mem 945 (by decide +kernel))) rfl (List.mem_cons_of_mem _ (gw_mem 73 (by decide +kernel))) (List.mem_cons_of_mem _ (gw_mem 942 (by decide +kernel))) (List.mem_cons_of_mem _ (gw_mem 943 (by decide +kernel))) (List.mem_cons_of_mem _ (gw_mem 944 (by decide +kernel))) pa5_turn (by decide +kernel) ⟨by have := hR1.1; omega, by have := hR1.2; omega⟩ (kd8_choice_ok (24, .invokevirtual 85, 3) (List.mem_of_getElem? (i := 16) rfl))) (am_allc (am_ck_V (n := 5) X hEs hE.1 hM (hg_good (gw_mem 772 (by decide +kernel))) rfl (List.mem_cons_of_mem _ (gw_mem 75 (by decide +kernel))) (List.mem_cons_of_mem _ (gw_mem 769 (by decide +kernel))) (List.mem_cons_of_mem _ (gw_mem 771 (by decide +kernel))) (List.mem_cons_of_mem _ (gw_mem 10 (by decide +kernel))) (pa8_spanA KP) (by decide +kernel) ⟨by have := hR1.1; omega, by have := hR1.2; omega⟩ (kd8_choice_ok (31, .invokevirtual 30, 3) (List.mem_of_getElem? (i := 20) rfl))) (am_allc (am_ck_V (n := 1) X hEs hE.1 (km5_turn hE) (hg_good (gw_mem 945 (by decide +kernel))) rfl (List.mem_cons_of_mem _ (gw_mem 73 (by decide +kernel))) (List.mem_cons_of_mem _ (gw_mem 942 (by decide +kernel))) (List.mem_cons_of_mem _ (gw_mem 943 (by decide +kernel))) (List.mem_cons_of_mem _ (gw_mem 944 (by decide +kernel))) pa5_turn (by decide +kernel) ⟨by have := hR1.1; omega, by have := hR1.2; omega⟩ (kd8_choice_ok (42, .invokevirtual 85, 3) (List.mem_of_getElem? (i := 27) rfl))) (am_allc (am_ck_V (n := 1) X hEs hE.1 (km5_close hE) (hg_good (gw_mem 949 (by decide +kernel))) rfl (List.mem_cons_of_mem _ (gw_mem 73 (by decide +kernel))) (List.mem_cons_of_mem _ (gw_mem 946 (by decide +kernel))) (List.mem_cons_of_mem _ (gw_mem 947 (by decide +kernel))) (List.mem_cons_of_mem _ (gw_mem 948 (by decide +kernel))) pa5_close (by decide +kernel) ⟨by have := hR1.1; omega, by have := hR1.2; omega⟩ (kd8_choice_ok (49, .invokevirtual 73, 3) (List.mem_of_getElem? (i := 32) rfl))) (am_allc (am_ck_V (n := 5) X hEs hE.1 hM (hg_good (gw_mem 772 (by decide +kernel))) rfl (List.mem_cons_of_mem _ (gw_mem 75 (by decide +kernel))) (List.mem_cons_of_mem _ (gw_mem 769 (by decide +kernel))) (List.mem_cons_of_mem _ (gw_mem 771 (by decide +kernel))) (List.mem_cons_of_mem _ (gw_mem 10 (by decide +kernel))) (pa8_spanA KP) (by decide +kernel) ⟨by have := hR1.1; omega, by have := hR1.2; omega⟩ (kd8_choice_ok (56, .invokevirtual 30, 3) (List.mem_of_getElem? (i := 36) rfl))) (am_all0))))))))
    exact hz _ (am_as_mem hq)
noncomputable def ki8_loop (K : qt6 → qt5 → qt2 → Int32 → Int32 → Int32 → qt6 × qt2) (KP : qt6 → qt5 → qt2 → Int32 → Int32 → Int32 → Prop) : List (Nat × Option (List Nat) × Nat × (List am_V → List am_C → Prop) × am_M) := [(2, some [3, 4, 5, 6, 7, 8, 9, 10], 2, pr5_variable, fm5_variable), (10, some [11, 12, 13, 14, 15], 2, pr2_lone, fm2_lone), (18, some [11, 12, 13, 14, 15], 2, pr2_upTo, fm2_upTo), (26, some [11, 12, 13, 14, 15], 2, pr2_from, fm2_from), (43, some [11, 12, 13, 14, 15], 3, pr2_leaveAlone, fm2_leaveAlone), (54, some [3, 4, 5, 6, 7, 8, 9, 10], 2, pr5_close, fm5_close), (61, none, 6, pr8_spanA KP, fm8_spanA K), (75, some [11, 12, 13, 14, 15], 3, pr2_leaveAlone, fm2_leaveAlone)]
noncomputable def kb8_loop (K : qt6 → qt5 → qt2 → Int32 → Int32 → Int32 → qt6 × qt2) (KP : qt6 → qt5 → qt2 → Int32 → Int32 → Int32 → Prop) : am_B := (kd8_loop, am_as kf8, hn_ty, fun _ => none, fun _ => none, am_as (ki8_loop K KP), fun _ => none, 5, 9, none)
noncomputable def fn8_loop_c31 : Nat → (qt6 → qt5 → qt2 → Int32 → Int32 → Int32 → qt6 × qt2) → (qt6 → qt5 → qt2 → Int32 → Int32 → Int32 → Prop) → qt6 → qt5 → qt2 → Int32 → Int32 → Int32 → Int32 → Int32 → Int32 → qt6 × qt2
  | 0, _, _, t, _, m, _, _, _, _, _, _ => (t, m)
  | fu + 1, K, KP, t, x, m, v3, v4, v5, v6, v7, v8 => (if v7 ≤ v8 then (t, (fn2_leaveAlone m v5 v6)) else (fn8_loop_c31 fu K KP ((K t x (fn2_leaveAlone m v5 v8) (v3 + (1 : Int32)) (fn5_close x v3) (v4 + (1 : Int32))).1) x ((K t x (fn2_leaveAlone m v5 v8) (v3 + (1 : Int32)) (fn5_close x v3) (v4 + (1 : Int32))).2) v3 v4 v5 v6 v7 (v8 + (1 : Int32))))
def wp8_loop_c31 : Nat → (qt6 → qt5 → qt2 → Int32 → Int32 → Int32 → qt6 × qt2) → (qt6 → qt5 → qt2 → Int32 → Int32 → Int32 → Prop) → qt6 → qt5 → qt2 → Int32 → Int32 → Int32 → Int32 → Int32 → Int32 → Prop
  | 0, _, _, _, _, _, _, _, _, _, _, _ => False
  | fu + 1, K, KP, t, x, m, v3, v4, v5, v6, v7, v8 => ((v7 ≤ v8 → (wp2_leaveAlone m v5 v6)) ∧ (¬ v7 ≤ v8 → ((wp2_leaveAlone m v5 v8) ∧ ((wp5_close x v3) ∧ ((KP t x (fn2_leaveAlone m v5 v8) (v3 + (1 : Int32)) (fn5_close x v3) (v4 + (1 : Int32))) ∧ (wp8_loop_c31 fu K KP ((K t x (fn2_leaveAlone m v5 v8) (v3 + (1 : Int32)) (fn5_close x v3) (v4 + (1 : Int32))).1) x ((K t x (fn2_leaveAlone m v5 v8) (v3 + (1 : Int32)) (fn5_close x v3) (v4 + (1 : Int32))).2) v3 v4 v5 v6 v7 (v8 + (1 : Int32))))))))
set_option maxRecDepth 100000 in
set_option maxHeartbeats 4000000 in
theorem rc8_loop_31 (K : qt6 → qt5 → qt2 → Int32 → Int32 → Int32 → qt6 × qt2) (KP : qt6 → qt5 → qt2 → Int32 → Int32 → Int32 → Prop) : ∀ (fu : Nat) (t : qt6) (x : qt5) (m : qt2) (v3 : Int32) (v4 : Int32) (v5 : Int32) (v6 : Int32) (v7 : Int32) (v8 : Int32) , wp8_loop_c31 fu K KP t x m v3 v4 v5 v6 v7 v8 → am_lf (am_mk (kb8_loop K KP) 0 0 16) [31] (31, [some (.inr (.inl 0)), some (.inr (.inl 3)), some (.inr (.inl 11)), some (.inl v3), some (.inl v4), some (.inl v5), some (.inl v6), some (.inl v7), some (.inl v8)], [], (kw_W t x m), 0, 0) = some (none, (kw_W ((fn8_loop_c31 fu K KP t x m v3 v4 v5 v6 v7 v8).1) x ((fn8_loop_c31 fu K KP t x m v3 v4 v5 v6 v7 v8).2))) := by
  intro fu
  induction fu with
  | zero =>
    intro t x m v3 v4 v5 v6 v7 v8 hp
    exact hp.elim
  | succ fu ih =>
    intro t x m v3 v4 v5 v6 v7 v8 hp
    unfold wp8_loop_c31 at hp
    refine am_lf_eq ?_
    generalize am_lf (am_mk (kb8_loop K KP) 0 0 16) [31] = kt at ih ⊢
    refine am_if (c := v7 ≤ v8) (fun h2 => ?_) (fun h2 => ?_)
    · have q2 := hp.1 h2
      refine am_cy (pre := pr2_leaveAlone) (f := fm2_leaveAlone) (a' := [.inr (.inl 0), .inl v5, .inl v6]) (wc := (kw_I m)) (w' := (kw_W t x (fn2_leaveAlone m v5 v6))) (r := (none, (kw_I (fn2_leaveAlone m v5 v6)), 0, 0)) ?_ ?_ ?_ ?_ ?_ ?_ ?_ ?_ ?_ ?_
      · exact ks_W_I_3_o t x m
      · rfl
      · rfl
      · exact ks_W_I_3_s t x m
      · exact ⟨m, v5, v6, rfl, rfl, q2⟩
      · exact fe2_leaveAlone m v5 v6
      · exact kwl_I (fn2_leaveAlone m v5 v6)
      · rfl
      · exact ks_W_I_3_m t x m (fn2_leaveAlone m v5 v6)
      have e : fn8_loop_c31 (fu + 1) K KP t x m v3 v4 v5 v6 v7 v8 = (t, (fn2_leaveAlone m v5 v6)) := by
        rw [fn8_loop_c31]
        rw [if_pos h2]
      rw [e] <;> rfl
    · have q2 := hp.2 h2
      refine am_cy (pre := pr2_leaveAlone) (f := fm2_leaveAlone) (a' := [.inr (.inl 0), .inl v5, .inl v8]) (wc := (kw_I m)) (w' := (kw_W t x (fn2_leaveAlone m v5 v8))) (r := (none, (kw_I (fn2_leaveAlone m v5 v8)), 0, 0)) ?_ ?_ ?_ ?_ ?_ ?_ ?_ ?_ ?_ ?_
      · exact ks_W_I_3_o t x m
      · rfl
      · rfl
      · exact ks_W_I_3_s t x m
      · exact ⟨m, v5, v8, rfl, rfl, q2.1⟩
      · exact fe2_leaveAlone m v5 v8
      · exact kwl_I (fn2_leaveAlone m v5 v8)
      · rfl
      · exact ks_W_I_3_m t x m (fn2_leaveAlone m v5 v8)
      refine am_cy (pre := pr5_close) (f := fm5_close) (a' := [.inr (.inl 0), .inl v3]) (wc := (kw_S x)) (w' := (kw_W t x (fn2_leaveAlone m v5 v8))) (r := (some (.inl (fn5_close x v3)), (kw_S x), 0, 0)) ?_ ?_ ?_ ?_ ?_ ?_ ?_ ?_ ?_ ?_
      · exact ks_W_S_2_o t x (fn2_leaveAlone m v5 v8)
      · rfl
      · rfl
      · exact ks_W_S_2_s t x (fn2_leaveAlone m v5 v8)
      · exact ⟨x, v3, rfl, rfl, q2.2.1⟩
      · exact fe5_close x v3
      · exact kwl_S x
      · rfl
      · exact ks_W_S_2_m t x (fn2_leaveAlone m v5 v8) x
      refine am_cx (pre := pr8_spanA KP) (f := fm8_spanA K) (r := (none, (kw_W ((K t x (fn2_leaveAlone m v5 v8) (v3 + (1 : Int32)) (fn5_close x v3) (v4 + (1 : Int32))).1) x ((K t x (fn2_leaveAlone m v5 v8) (v3 + (1 : Int32)) (fn5_close x v3) (v4 + (1 : Int32))).2)), 0, 0)) ?_ ?_ ?_ ?_
      · exact ⟨t, x, (fn2_leaveAlone m v5 v8), (v3 + (1 : Int32)), (fn5_close x v3), (v4 + (1 : Int32)), rfl, rfl, q2.2.2.1⟩
      · exact fe8_spanA K t x (fn2_leaveAlone m v5 v8) (v3 + (1 : Int32)) (fn5_close x v3) (v4 + (1 : Int32))
      · exact rfl
      have e : fn8_loop_c31 (fu + 1) K KP t x m v3 v4 v5 v6 v7 v8 = fn8_loop_c31 fu K KP ((K t x (fn2_leaveAlone m v5 v8) (v3 + (1 : Int32)) (fn5_close x v3) (v4 + (1 : Int32))).1) x ((K t x (fn2_leaveAlone m v5 v8) (v3 + (1 : Int32)) (fn5_close x v3) (v4 + (1 : Int32))).2) v3 v4 v5 v6 v7 (v8 + (1 : Int32)) := by
        rw [fn8_loop_c31]
        rw [if_neg h2]
      rw [e]
      exact ih ((K t x (fn2_leaveAlone m v5 v8) (v3 + (1 : Int32)) (fn5_close x v3) (v4 + (1 : Int32))).1) x ((K t x (fn2_leaveAlone m v5 v8) (v3 + (1 : Int32)) (fn5_close x v3) (v4 + (1 : Int32))).2) v3 v4 v5 v6 v7 (v8 + (1 : Int32))  q2.2.2.2
noncomputable def fn8_loop (K : qt6 → qt5 → qt2 → Int32 → Int32 → Int32 → qt6 × qt2) (KP : qt6 → qt5 → qt2 → Int32 → Int32 → Int32 → Prop) (t : qt6) (x : qt5) (m : qt2) (p2 : Int32) (p3 : Int32) : qt6 × qt2 := Classical.choose (⟨_, rfl⟩ : ∃ z : qt6 × qt2, z = (fn8_loop_c31 hg_fu K KP t x m p2 p3 (fn5_variable x p2) (fn2_lone m (fn5_variable x p2)) (fn2_upTo m (fn5_variable x p2)) (fn2_from m (fn5_variable x p2))))
theorem fq8_loop (K : qt6 → qt5 → qt2 → Int32 → Int32 → Int32 → qt6 × qt2) (KP : qt6 → qt5 → qt2 → Int32 → Int32 → Int32 → Prop) (t : qt6) (x : qt5) (m : qt2) (p2 : Int32) (p3 : Int32) : fn8_loop K KP t x m p2 p3 = (fn8_loop_c31 hg_fu K KP t x m p2 p3 (fn5_variable x p2) (fn2_lone m (fn5_variable x p2)) (fn2_upTo m (fn5_variable x p2)) (fn2_from m (fn5_variable x p2))) := Classical.choose_spec (⟨_, rfl⟩ : ∃ z : qt6 × qt2, z = (fn8_loop_c31 hg_fu K KP t x m p2 p3 (fn5_variable x p2) (fn2_lone m (fn5_variable x p2)) (fn2_upTo m (fn5_variable x p2)) (fn2_from m (fn5_variable x p2))))
def wp8_loop (K : qt6 → qt5 → qt2 → Int32 → Int32 → Int32 → qt6 × qt2) (KP : qt6 → qt5 → qt2 → Int32 → Int32 → Int32 → Prop) (t : qt6) (x : qt5) (m : qt2) (p2 : Int32) (p3 : Int32) : Prop := ((wp5_variable x p2) ∧ ((wp2_lone m (fn5_variable x p2)) ∧ ((wp2_upTo m (fn5_variable x p2)) ∧ ((wp2_from m (fn5_variable x p2)) ∧ (wp8_loop_c31 hg_fu K KP t x m p2 p3 (fn5_variable x p2) (fn2_lone m (fn5_variable x p2)) (fn2_upTo m (fn5_variable x p2)) (fn2_from m (fn5_variable x p2)))))))
set_option maxRecDepth 100000 in
set_option maxHeartbeats 4000000 in
theorem re8_loop (K : qt6 → qt5 → qt2 → Int32 → Int32 → Int32 → qt6 × qt2) (KP : qt6 → qt5 → qt2 → Int32 → Int32 → Int32 → Prop) (t : qt6) (x : qt5) (m : qt2) (p2 : Int32) (p3 : Int32) (hp : wp8_loop K KP t x m p2 p3) : am_lf (am_mk (kb8_loop K KP) 0 0 16) [31] (0, am_L0 [.inr (.inl 0), .inr (.inl 3), .inr (.inl 11), .inl p2, .inl p3] 9, [], (kw_W t x m), 0, 0) = some (none, (kw_W ((fn8_loop K KP t x m p2 p3).1) x ((fn8_loop K KP t x m p2 p3).2))) := by
  unfold wp8_loop at hp
  have i31 := @rc8_loop_31 K KP
  refine am_lf_eq ?_
  generalize am_lf (am_mk (kb8_loop K KP) 0 0 16) [31] = kt at i31 ⊢
  refine am_cy (pre := pr5_variable) (f := fm5_variable) (a' := [.inr (.inl 0), .inl p2]) (wc := (kw_S x)) (w' := (kw_W t x m)) (r := (some (.inl (fn5_variable x p2)), (kw_S x), 0, 0)) ?_ ?_ ?_ ?_ ?_ ?_ ?_ ?_ ?_ ?_
  · exact ks_W_S_2_o t x m
  · rfl
  · rfl
  · exact ks_W_S_2_s t x m
  · exact ⟨x, p2, rfl, rfl, hp.1⟩
  · exact fe5_variable x p2
  · exact kwl_S x
  · rfl
  · exact ks_W_S_2_m t x m x
  refine am_cy (pre := pr2_lone) (f := fm2_lone) (a' := [.inr (.inl 0), .inl (fn5_variable x p2)]) (wc := (kw_I m)) (w' := (kw_W t x m)) (r := (some (.inl (fn2_lone m (fn5_variable x p2))), (kw_I m), 0, 0)) ?_ ?_ ?_ ?_ ?_ ?_ ?_ ?_ ?_ ?_
  · exact ks_W_I_3_o t x m
  · rfl
  · rfl
  · exact ks_W_I_3_s t x m
  · exact ⟨m, (fn5_variable x p2), rfl, rfl, hp.2.1⟩
  · exact fe2_lone m (fn5_variable x p2)
  · exact kwl_I m
  · rfl
  · exact ks_W_I_3_m t x m m
  refine am_cy (pre := pr2_upTo) (f := fm2_upTo) (a' := [.inr (.inl 0), .inl (fn5_variable x p2)]) (wc := (kw_I m)) (w' := (kw_W t x m)) (r := (some (.inl (fn2_upTo m (fn5_variable x p2))), (kw_I m), 0, 0)) ?_ ?_ ?_ ?_ ?_ ?_ ?_ ?_ ?_ ?_
  · exact ks_W_I_3_o t x m
  · rfl
  · rfl
  · exact ks_W_I_3_s t x m
  · exact ⟨m, (fn5_variable x p2), rfl, rfl, hp.2.2.1⟩
  · exact fe2_upTo m (fn5_variable x p2)
  · exact kwl_I m
  · rfl
  · exact ks_W_I_3_m t x m m
  refine am_cy (pre := pr2_from) (f := fm2_from) (a' := [.inr (.inl 0), .inl (fn5_variable x p2)]) (wc := (kw_I m)) (w' := (kw_W t x m)) (r := (some (.inl (fn2_from m (fn5_variable x p2))), (kw_I m), 0, 0)) ?_ ?_ ?_ ?_ ?_ ?_ ?_ ?_ ?_ ?_
  · exact ks_W_I_3_o t x m
  · rfl
  · rfl
  · exact ks_W_I_3_s t x m
  · exact ⟨m, (fn5_variable x p2), rfl, rfl, hp.2.2.2.1⟩
  · exact fe2_from m (fn5_variable x p2)
  · exact kwl_I m
  · rfl
  · exact ks_W_I_3_m t x m m
  have e : fn8_loop K KP t x m p2 p3 = fn8_loop_c31 hg_fu K KP t x m p2 p3 (fn5_variable x p2) (fn2_lone m (fn5_variable x p2)) (fn2_upTo m (fn5_variable x p2)) (fn2_from m (fn5_variable x p2)) := by
    rw [fq8_loop]
  rw [e]
  exact i31 hg_fu t x m p2 p3 (fn5_variable x p2) (fn2_lone m (fn5_variable x p2)) (fn2_upTo m (fn5_variable x p2)) (fn2_from m (fn5_variable x p2))  hp.2.2.2.2
abbrev pr8_loop (K : qt6 → qt5 → qt2 → Int32 → Int32 → Int32 → qt6 × qt2) (KP : qt6 → qt5 → qt2 → Int32 → Int32 → Int32 → Prop) : List am_V → List am_C → Prop := fun a w => ∃ (t : qt6) (x : qt5) (m : qt2) (p2 : Int32) (p3 : Int32), a = [.inr (.inl 0), .inr (.inl 3), .inr (.inl 11), .inl p2, .inl p3] ∧ w = (kw_W t x m) ∧ wp8_loop K KP t x m p2 p3
noncomputable def fm8_loop (K : qt6 → qt5 → qt2 → Int32 → Int32 → Int32 → qt6 × qt2) (KP : qt6 → qt5 → qt2 → Int32 → Int32 → Int32 → Prop) : am_M := fun a w => (fun (z : qt6 × qt2) => (none, (kw_W (z.1) (qs5 w 3) (z.2)), 0, 0)) (fn8_loop K KP (qs6 w 1) (qs5 w 3) (qs2 w 11) (am_i (am_an a 3)) (am_i (am_an a 4)))
theorem fe8_loop (K : qt6 → qt5 → qt2 → Int32 → Int32 → Int32 → qt6 × qt2) (KP : qt6 → qt5 → qt2 → Int32 → Int32 → Int32 → Prop) (t : qt6) (x : qt5) (m : qt2) (p2 : Int32) (p3 : Int32) : fm8_loop K KP [.inr (.inl 0), .inr (.inl 3), .inr (.inl 11), .inl p2, .inl p3] (kw_W t x m) = (none, (kw_W ((fn8_loop K KP t x m p2 p3).1) x ((fn8_loop K KP t x m p2 p3).2)), 0, 0) := rfl
set_option maxRecDepth 100000 in
set_option maxHeartbeats 4000000 in
theorem rn8_loop (K : qt6 → qt5 → qt2 → Int32 → Int32 → Int32 → qt6 × qt2) (KP : qt6 → qt5 → qt2 → Int32 → Int32 → Int32 → Prop) : ∀ (a : List am_V) (w : List am_C), pr8_loop K KP a w → ∃ nq, am_ev (am_mk (kb8_loop K KP) (fm8_loop K KP a w).2.2.1 (fm8_loop K KP a w).2.2.2 w.length) [31] nq (0, am_L0 a 9, [], w, 0, 0) = some ((fm8_loop K KP a w).1, (fm8_loop K KP a w).2.1) := by
  rintro a w ⟨t, x, m, p2, p3, rfl, rfl, hp⟩
  rw [fe8_loop K KP t x m p2 p3]
  exact am_lf_ev (re8_loop K KP t x m p2 p3 hp)
theorem rl8_loop (K : qt6 → qt5 → qt2 → Int32 → Int32 → Int32 → qt6 × qt2) (KP : qt6 → qt5 → qt2 → Int32 → Int32 → Int32 → Prop) : ∀ (a : List am_V) (w : List am_C), pr8_loop K KP a w → a.length ≤ 9 := by
  rintro a w ⟨t, x, m, p2, p3, rfl, rfl, hp⟩
  exact Nat.le_of_ble_eq_true rfl
theorem pa8_loop (K : qt6 → qt5 → qt2 → Int32 → Int32 → Int32 → qt6 × qt2) (KP : qt6 → qt5 → qt2 → Int32 → Int32 → Int32 → Prop) : ∀ a w, pr8_loop K KP a w → ∃ q a' ci fs r, a = .inr (.inl q) :: a' ∧ w[q]? = some (.inr (ci, fs)) ∧ hn_cl[ci]? = some r ∧ r.1 = hn_R8 := by
  rintro a w ⟨t, x, m, p2, p3, rfl, rfl, hp⟩
  exact ⟨0, _, 8, _, _, rfl, rfl, rfl, rfl⟩
set_option maxRecDepth 100000 in
set_option maxHeartbeats 4000000 in
theorem km8_loop {l : Launch} {E : (Nat → Prop) → State → Prop} {D : va_G} {ou : Nat → Nat} {ca : Nat → ClassId} {K : qt6 → qt5 → qt2 → Int32 → Int32 → Int32 → qt6 × qt2} {KP : qt6 → qt5 → qt2 → Int32 → Int32 → Int32 → Prop} {h : Nat} (hE : hg_E E ou) (hh : 20 ≤ h) (hM : hg_Met l E D ou ca hy8_span prog_10_method_3_code 7 none h (pr8_spanA KP) (fm8_spanA K)) : hg_Met l E D ou ca hy8_loop prog_10_method_5_code 9 none (h + 1) (pr8_loop K KP) (fm8_loop K KP) := by
  refine am_met (B := (kb8_loop K KP)) (cuts := [31]) (nt := 5) (by decide +kernel) rfl rfl (hg_tys_ok ca) ?_ (by decide) (rl8_loop K KP) ?_ (rn8_loop K KP)
  · exact fun t ht => List.mem_cons_of_mem _ (hg_arr t ht)
  · intro a w hp ad p e R s m args below meth c hR X hEs hnm
    have hR1 : (h + 1) ≤ R.frames ∧ 40 * (h + 1) ≤ R.locals := by rw [hR]; exact ⟨Nat.le_refl _, Nat.le_refl _⟩
    have hN := hE.2.1 _ _ hEs
    refine ⟨kd8_loop_ok, fun index ci fi mode hq => kf8_ok X.2.2.2.2.1 hN.1 (index, ci, fi, mode) (am_as_mem hq), fun index ci fs hq => (am_no hq).elim, fun x v hq => (am_no hq).elim, ?_, fun o t n f hq => (am_no hq).elim, rfl, rfl, by rw [hR]; exact Nat.le_refl _, by rw [hR]; exact Nat.le_refl _⟩
    intro pc sel n0 pre0 f0 hq
    have hz : ∀ q ∈ (ki8_loop K KP), am_CK p l e R s m args below meth c D hn_cl (va_A (am_w ad ou ca w) s.heap.size) ou ca 9 q.1 q.2.2.1 q.2.2.2.1 q.2.2.2.2 := by
      refine am_allc (am_ck_V (n := 1) X hEs hE.1 (km5_variable hE) (hg_good (gw_mem 779 (by decide +kernel))) rfl (List.mem_cons_of_mem _ (gw_mem 73 (by decide +kernel))) (List.mem_cons_of_mem _ (gw_mem 776 (by decide +kernel))) (List.mem_cons_of_mem _ (gw_mem 777 (by decide +kernel))) (List.mem_cons_of_mem _ (gw_mem 778 (by decide +kernel))) pa5_variable (by decide +kernel) ⟨by have := hR1.1; omega, by have := hR1.2; omega⟩ (kd8_loop_ok (2, .invokevirtual 50, 3) (List.mem_of_getElem? (i := 2) rfl))) (am_allc (am_ck_V (n := 1) X hEs hE.1 (km2_lone hE) (hg_good (gw_mem 957 (by decide +kernel))) rfl (List.mem_cons_of_mem _ (gw_mem 71 (by decide +kernel))) (List.mem_cons_of_mem _ (gw_mem 954 (by decide +kernel))) (List.mem_cons_of_mem _ (gw_mem 955 (by decide +kernel))) (List.mem_cons_of_mem _ (gw_mem 956 (by decide +kernel))) pa2_lone (by decide +kernel) ⟨by have := hR1.1; omega, by have := hR1.2; omega⟩ (kd8_loop_ok (10, .invokevirtual 88, 3) (List.mem_of_getElem? (i := 6) rfl))) (am_allc (am_ck_V (n := 1) X hEs hE.1 (km2_upTo hE) (hg_good (gw_mem 791 (by decide +kernel))) rfl (List.mem_cons_of_mem _ (gw_mem 71 (by decide +kernel))) (List.mem_cons_of_mem _ (gw_mem 958 (by decide +kernel))) (List.mem_cons_of_mem _ (gw_mem 789 (by decide +kernel))) (List.mem_cons_of_mem _ (gw_mem 790 (by decide +kernel))) pa2_upTo (by decide +kernel) ⟨by have := hR1.1; omega, by have := hR1.2; omega⟩ (kd8_loop_ok (18, .invokevirtual 91, 3) (List.mem_of_getElem? (i := 10) rfl))) (am_allc (am_ck_V (n := 1) X hEs hE.1 (km2_from hE) (hg_good (gw_mem 787 (by decide +kernel))) rfl (List.mem_cons_of_mem _ (gw_mem 71 (by decide +kernel))) (List.mem_cons_of_mem _ (gw_mem 959 (by decide +kernel))) (List.mem_cons_of_mem _ (gw_mem 785 (by decide +kernel))) (List.mem_cons_of_mem _ (gw_mem 786 (by decide +kernel))) pa2_from (by decide +kernel) ⟨by have := hR1.1; omega, by have := hR1.2; omega⟩ (kd8_loop_ok (26, .invokevirtual 94, 3) (List.mem_of_getElem? (i := 14) rfl))) (am_allc (am_ck_V (n := 2) X hEs hE.1 (km2_leaveAlone hE) (hg_good (gw_mem 963 (by decide +kernel))) rfl (List.mem_cons_of_mem _ (gw_mem 71 (by decide +kernel))) (List.mem_cons_of_mem _ (gw_mem 960 (by decide +kernel))) (List.mem_cons_of_mem _ (gw_mem 961 (by decide +kernel))) (List.mem_cons_of_mem _ (gw_mem 962 (by decide +kernel))) pa2_leaveAlone (by decide +kernel) ⟨by have := hR1.1; omega, by have := hR1.2; omega⟩ (kd8_loop_ok (43, .invokevirtual 97, 3) (List.mem_of_getElem? (i := 22) rfl))) (am_allc (am_ck_V (n := 1) X hEs hE.1 (km5_close hE) (hg_good (gw_mem 949 (by decide +kernel))) rfl (List.mem_cons_of_mem _ (gw_mem 73 (by decide +kernel))) (List.mem_cons_of_mem _ (gw_mem 946 (by decide +kernel))) (List.mem_cons_of_mem _ (gw_mem 947 (by decide +kernel))) (List.mem_cons_of_mem _ (gw_mem 948 (by decide +kernel))) pa5_close (by decide +kernel) ⟨by have := hR1.1; omega, by have := hR1.2; omega⟩ (kd8_loop_ok (54, .invokevirtual 73, 3) (List.mem_of_getElem? (i := 31) rfl))) (am_allc (am_ck_V (n := 5) X hEs hE.1 hM (hg_good (gw_mem 772 (by decide +kernel))) rfl (List.mem_cons_of_mem _ (gw_mem 75 (by decide +kernel))) (List.mem_cons_of_mem _ (gw_mem 769 (by decide +kernel))) (List.mem_cons_of_mem _ (gw_mem 771 (by decide +kernel))) (List.mem_cons_of_mem _ (gw_mem 10 (by decide +kernel))) (pa8_spanA KP) (by decide +kernel) ⟨by have := hR1.1; omega, by have := hR1.2; omega⟩ (kd8_loop_ok (61, .invokevirtual 30, 3) (List.mem_of_getElem? (i := 35) rfl))) (am_allc (am_ck_V (n := 2) X hEs hE.1 (km2_leaveAlone hE) (hg_good (gw_mem 963 (by decide +kernel))) rfl (List.mem_cons_of_mem _ (gw_mem 71 (by decide +kernel))) (List.mem_cons_of_mem _ (gw_mem 960 (by decide +kernel))) (List.mem_cons_of_mem _ (gw_mem 961 (by decide +kernel))) (List.mem_cons_of_mem _ (gw_mem 962 (by decide +kernel))) pa2_leaveAlone (by decide +kernel) ⟨by have := hR1.1; omega, by have := hR1.2; omega⟩ (kd8_loop_ok (75, .invokevirtual 97, 3) (List.mem_of_getElem? (i := 41) rfl))) (am_all0))))))))
    exact hz _ (am_as_mem hq)
noncomputable def ki8_spanB (K : qt6 → qt5 → qt2 → Int32 → Int32 → Int32 → qt6 × qt2) (KP : qt6 → qt5 → qt2 → Int32 → Int32 → Int32 → Prop) : List (Nat × Option (List Nat) × Nat × (List am_V → List am_C → Prop) × am_M) := [(31, some [3, 4, 5, 6, 7, 8, 9, 10], 2, pr5_kind, fm5_kind), (71, some [3, 4, 5, 6, 7, 8, 9, 10], 2, pr5_sign, fm5_sign), (74, some [1, 2], 2, pr6_put, fm6_put), (90, some [3, 4, 5, 6, 7, 8, 9, 10], 2, pr5_variable, fm5_variable), (93, some [11, 12, 13, 14, 15], 2, pr2_first, fm2_first), (99, some [3, 4, 5, 6, 7, 8, 9, 10], 2, pr5_code, fm5_code), (102, some [1, 2, 11, 12, 13, 14, 15], 4, pr7_put, fm7_put), (115, none, 5, pr8_choice K KP, fm8_choice K KP), (128, none, 5, pr8_loop K KP, fm8_loop K KP), (137, some [3, 4, 5, 6, 7, 8, 9, 10], 2, pr5_close, fm5_close), (142, some [], 2, prJ_max, fmJ_max)]
noncomputable def kb8_spanB (K : qt6 → qt5 → qt2 → Int32 → Int32 → Int32 → qt6 × qt2) (KP : qt6 → qt5 → qt2 → Int32 → Int32 → Int32 → Prop) : am_B := (kd8_span, am_as kf8, hn_ty, fun _ => none, fun _ => none, am_as (ki8_spanB K KP), fun _ => none, 5, 7, none)
noncomputable def fn8_spanB_c11 : Nat → (qt6 → qt5 → qt2 → Int32 → Int32 → Int32 → qt6 × qt2) → (qt6 → qt5 → qt2 → Int32 → Int32 → Int32 → Prop) → qt6 → qt5 → qt2 → Int32 → Int32 → Int32 → qt6 × qt2
  | 0, _, _, t, _, m, _, _, _ => (t, m)
  | fu + 1, K, KP, t, x, m, v4, v5, v6 => (if v4 ≤ v6 then (t, m) else (if (qg6_spilled t) = 0 then (if (fn5_kind x v6) = (1 : Int32) then (fn8_spanB_c11 fu K KP ((fn6_put 1000 t (fn5_sign x v6)).2) x m v4 v5 ((fnJ_max (fn5_close x v6) v6) + (1 : Int32))) else (if (fn5_kind x v6) = (2 : Int32) then (fn8_spanB_c11 fu K KP (fn7_put t m (fn2_first m (fn5_variable x v6)) (fn5_code x v6)) x m v4 v5 ((fnJ_max (fn5_close x v6) v6) + (1 : Int32))) else (if (fn5_kind x v6) = (3 : Int32) then (fn8_spanB_c11 fu K KP ((fn8_choice K KP t x m v6 v5).1) x ((fn8_choice K KP t x m v6 v5).2) v4 v5 ((fnJ_max (fn5_close x v6) v6) + (1 : Int32))) else (if (fn5_kind x v6) = (4 : Int32) then (fn8_spanB_c11 fu K KP ((fn8_loop K KP t x m v6 v5).1) x ((fn8_loop K KP t x m v6 v5).2) v4 v5 ((fnJ_max (fn5_close x v6) v6) + (1 : Int32))) else (fn8_spanB_c11 fu K KP t x m v4 v5 ((fnJ_max (fn5_close x v6) v6) + (1 : Int32))))))) else (t, m)))
def wp8_spanB_c11 : Nat → (qt6 → qt5 → qt2 → Int32 → Int32 → Int32 → qt6 × qt2) → (qt6 → qt5 → qt2 → Int32 → Int32 → Int32 → Prop) → qt6 → qt5 → qt2 → Int32 → Int32 → Int32 → Prop
  | 0, _, _, _, _, _, _, _, _ => False
  | fu + 1, K, KP, t, x, m, v4, v5, v6 => ((v4 ≤ v6 → True) ∧ (¬ v4 ≤ v6 → (((qg6_spilled t) = 0 → ((wp5_kind x v6) ∧ (((fn5_kind x v6) = (1 : Int32) → ((wp5_sign x v6) ∧ ((wp6_put 1000 t (fn5_sign x v6)) ∧ ((wp5_close x v6) ∧ ((wpJ_max (fn5_close x v6) v6) ∧ (wp8_spanB_c11 fu K KP ((fn6_put 1000 t (fn5_sign x v6)).2) x m v4 v5 ((fnJ_max (fn5_close x v6) v6) + (1 : Int32)))))))) ∧ (¬ (fn5_kind x v6) = (1 : Int32) → (((fn5_kind x v6) = (2 : Int32) → ((wp5_variable x v6) ∧ ((wp2_first m (fn5_variable x v6)) ∧ ((wp5_code x v6) ∧ ((wp7_put t m (fn2_first m (fn5_variable x v6)) (fn5_code x v6)) ∧ ((wp5_close x v6) ∧ ((wpJ_max (fn5_close x v6) v6) ∧ (wp8_spanB_c11 fu K KP (fn7_put t m (fn2_first m (fn5_variable x v6)) (fn5_code x v6)) x m v4 v5 ((fnJ_max (fn5_close x v6) v6) + (1 : Int32)))))))))) ∧ (¬ (fn5_kind x v6) = (2 : Int32) → (((fn5_kind x v6) = (3 : Int32) → ((wp8_choice K KP t x m v6 v5) ∧ ((wp5_close x v6) ∧ ((wpJ_max (fn5_close x v6) v6) ∧ (wp8_spanB_c11 fu K KP ((fn8_choice K KP t x m v6 v5).1) x ((fn8_choice K KP t x m v6 v5).2) v4 v5 ((fnJ_max (fn5_close x v6) v6) + (1 : Int32))))))) ∧ (¬ (fn5_kind x v6) = (3 : Int32) → (((fn5_kind x v6) = (4 : Int32) → ((wp8_loop K KP t x m v6 v5) ∧ ((wp5_close x v6) ∧ ((wpJ_max (fn5_close x v6) v6) ∧ (wp8_spanB_c11 fu K KP ((fn8_loop K KP t x m v6 v5).1) x ((fn8_loop K KP t x m v6 v5).2) v4 v5 ((fnJ_max (fn5_close x v6) v6) + (1 : Int32))))))) ∧ (¬ (fn5_kind x v6) = (4 : Int32) → ((wp5_close x v6) ∧ ((wpJ_max (fn5_close x v6) v6) ∧ (wp8_spanB_c11 fu K KP t x m v4 v5 ((fnJ_max (fn5_close x v6) v6) + (1 : Int32))))))))))))))) ∧ (¬ (qg6_spilled t) = 0 → True))))
set_option maxRecDepth 100000 in
set_option maxHeartbeats 4000000 in
theorem rc8_spanB_11 (K : qt6 → qt5 → qt2 → Int32 → Int32 → Int32 → qt6 × qt2) (KP : qt6 → qt5 → qt2 → Int32 → Int32 → Int32 → Prop) : ∀ (fu : Nat) (t : qt6) (x : qt5) (m : qt2) (v4 : Int32) (v5 : Int32) (v6 : Int32) (j3 : Option am_V) (g3 : am_loO 16 j3 = true) , wp8_spanB_c11 fu K KP t x m v4 v5 v6 → am_lf (am_mk (kb8_spanB K KP) 0 0 16) [11] (11, [some (.inr (.inl 0)), some (.inr (.inl 3)), some (.inr (.inl 11)), j3, some (.inl v4), some (.inl v5), some (.inl v6)], [], (kw_W t x m), 0, 0) = some (none, (kw_W ((fn8_spanB_c11 fu K KP t x m v4 v5 v6).1) x ((fn8_spanB_c11 fu K KP t x m v4 v5 v6).2))) := by
  intro fu
  induction fu with
  | zero =>
    intro t x m v4 v5 v6 j3 g3 hp
    exact hp.elim
  | succ fu ih =>
    intro t x m v4 v5 v6 j3 g3 hp
    unfold wp8_spanB_c11 at hp
    refine am_lf_eq ?_
    generalize am_lf (am_mk (kb8_spanB K KP) 0 0 16) [11] = kt at ih ⊢
    refine am_if (c := v4 ≤ v6) (fun h2 => ?_) (fun h2 => ?_)
    · have e : fn8_spanB_c11 (fu + 1) K KP t x m v4 v5 v6 = (t, m) := by
        rw [fn8_spanB_c11]
        rw [if_pos h2]
      rw [e] <;> rfl
    · have q2 := hp.2 h2
      refine am_if (c := (qg6_spilled t) = 0) (fun h3 => ?_) (fun h3 => ?_)
      · have q3 := q2.1 h3
        refine am_cy (pre := pr5_kind) (f := fm5_kind) (a' := [.inr (.inl 0), .inl v6]) (wc := (kw_S x)) (w' := (kw_W t x m)) (r := (some (.inl (fn5_kind x v6)), (kw_S x), 0, 0)) ?_ ?_ ?_ ?_ ?_ ?_ ?_ ?_ ?_ ?_
        · exact ks_W_S_2_o t x m
        · rfl
        · rfl
        · exact ks_W_S_2_s t x m
        · exact ⟨x, v6, rfl, rfl, q3.1⟩
        · exact fe5_kind x v6
        · exact kwl_S x
        · rfl
        · exact ks_W_S_2_m t x m x
        refine am_if (c := (fn5_kind x v6) = (1 : Int32)) (fun h4 => ?_) (fun h4 => ?_)
        · have q4 := q3.2.1 h4
          refine am_cy (pre := pr5_sign) (f := fm5_sign) (a' := [.inr (.inl 0), .inl v6]) (wc := (kw_S x)) (w' := (kw_W t x m)) (r := (some (.inl (fn5_sign x v6)), (kw_S x), 0, 0)) ?_ ?_ ?_ ?_ ?_ ?_ ?_ ?_ ?_ ?_
          · exact ks_W_S_2_o t x m
          · rfl
          · rfl
          · exact ks_W_S_2_s t x m
          · exact ⟨x, v6, rfl, rfl, q4.1⟩
          · exact fe5_sign x v6
          · exact kwl_S x
          · rfl
          · exact ks_W_S_2_m t x m x
          refine am_cy (pre := pr6_put) (f := fm6_put) (a' := [.inr (.inl 0), .inl (fn5_sign x v6)]) (wc := (kw_T 1000 t)) (w' := (kw_W ((fn6_put 1000 t (fn5_sign x v6)).2) x m)) (r := (some (.inl ((fn6_put 1000 t (fn5_sign x v6)).1)), (kw_T 1000 ((fn6_put 1000 t (fn5_sign x v6)).2)), 0, 0)) ?_ ?_ ?_ ?_ ?_ ?_ ?_ ?_ ?_ ?_
          · exact ks_W_T_1_o t x m
          · rfl
          · rfl
          · exact ks_W_T_1_s t x m
          · exact ⟨1000, t, (fn5_sign x v6), rfl, rfl, q4.2.1⟩
          · exact fe6_put 1000 t (fn5_sign x v6)
          · exact kwl_T 1000 ((fn6_put 1000 t (fn5_sign x v6)).2)
          · rfl
          · exact ks_W_T_1_m t x m ((fn6_put 1000 t (fn5_sign x v6)).2)
          refine am_cy (pre := pr5_close) (f := fm5_close) (a' := [.inr (.inl 0), .inl v6]) (wc := (kw_S x)) (w' := (kw_W ((fn6_put 1000 t (fn5_sign x v6)).2) x m)) (r := (some (.inl (fn5_close x v6)), (kw_S x), 0, 0)) ?_ ?_ ?_ ?_ ?_ ?_ ?_ ?_ ?_ ?_
          · exact ks_W_S_2_o ((fn6_put 1000 t (fn5_sign x v6)).2) x m
          · rfl
          · rfl
          · exact ks_W_S_2_s ((fn6_put 1000 t (fn5_sign x v6)).2) x m
          · exact ⟨x, v6, rfl, rfl, q4.2.2.1⟩
          · exact fe5_close x v6
          · exact kwl_S x
          · rfl
          · exact ks_W_S_2_m ((fn6_put 1000 t (fn5_sign x v6)).2) x m x
          refine am_cy (pre := prJ_max) (f := fmJ_max) (a' := [.inl (fn5_close x v6), .inl v6]) (wc := []) (w' := (kw_W ((fn6_put 1000 t (fn5_sign x v6)).2) x m)) (r := (some (.inl (fnJ_max (fn5_close x v6) v6)), [], 0, 0)) ?_ ?_ ?_ ?_ ?_ ?_ ?_ ?_ ?_ ?_
          · exact am_sow0 _
          · rfl
          · rfl
          · exact am_sub0 _
          · exact ⟨(fn5_close x v6), v6, rfl, rfl, q4.2.2.2.1⟩
          · exact feJ_max (fn5_close x v6) v6
          · exact rfl
          · rfl
          · exact am_mix0 _
          have e : fn8_spanB_c11 (fu + 1) K KP t x m v4 v5 v6 = fn8_spanB_c11 fu K KP ((fn6_put 1000 t (fn5_sign x v6)).2) x m v4 v5 ((fnJ_max (fn5_close x v6) v6) + (1 : Int32)) := by
            rw [fn8_spanB_c11]
            rw [if_neg h2, if_pos h3, if_pos h4]
          rw [e]
          exact ih ((fn6_put 1000 t (fn5_sign x v6)).2) x m v4 v5 ((fnJ_max (fn5_close x v6) v6) + (1 : Int32)) _ g3 q4.2.2.2.2
        · have q4 := q3.2.2 h4
          refine am_if (c := (fn5_kind x v6) = (2 : Int32)) (fun h5 => ?_) (fun h5 => ?_)
          · have q5 := q4.1 h5
            refine am_cy (pre := pr5_variable) (f := fm5_variable) (a' := [.inr (.inl 0), .inl v6]) (wc := (kw_S x)) (w' := (kw_W t x m)) (r := (some (.inl (fn5_variable x v6)), (kw_S x), 0, 0)) ?_ ?_ ?_ ?_ ?_ ?_ ?_ ?_ ?_ ?_
            · exact ks_W_S_2_o t x m
            · rfl
            · rfl
            · exact ks_W_S_2_s t x m
            · exact ⟨x, v6, rfl, rfl, q5.1⟩
            · exact fe5_variable x v6
            · exact kwl_S x
            · rfl
            · exact ks_W_S_2_m t x m x
            refine am_cy (pre := pr2_first) (f := fm2_first) (a' := [.inr (.inl 0), .inl (fn5_variable x v6)]) (wc := (kw_I m)) (w' := (kw_W t x m)) (r := (some (.inl (fn2_first m (fn5_variable x v6))), (kw_I m), 0, 0)) ?_ ?_ ?_ ?_ ?_ ?_ ?_ ?_ ?_ ?_
            · exact ks_W_I_3_o t x m
            · rfl
            · rfl
            · exact ks_W_I_3_s t x m
            · exact ⟨m, (fn5_variable x v6), rfl, rfl, q5.2.1⟩
            · exact fe2_first m (fn5_variable x v6)
            · exact kwl_I m
            · rfl
            · exact ks_W_I_3_m t x m m
            refine am_cy (pre := pr5_code) (f := fm5_code) (a' := [.inr (.inl 0), .inl v6]) (wc := (kw_S x)) (w' := (kw_W t x m)) (r := (some (.inl (fn5_code x v6)), (kw_S x), 0, 0)) ?_ ?_ ?_ ?_ ?_ ?_ ?_ ?_ ?_ ?_
            · exact ks_W_S_2_o t x m
            · rfl
            · rfl
            · exact ks_W_S_2_s t x m
            · exact ⟨x, v6, rfl, rfl, q5.2.2.1⟩
            · exact fe5_code x v6
            · exact kwl_S x
            · rfl
            · exact ks_W_S_2_m t x m x
            refine am_cy (pre := pr7_put) (f := fm7_put) (a' := [.inr (.inl 0), .inr (.inl 2), .inl (fn2_first m (fn5_variable x v6)), .inl (fn5_code x v6)]) (wc := (kw_TI t m)) (w' := (kw_W (fn7_put t m (fn2_first m (fn5_variable x v6)) (fn5_code x v6)) x m)) (r := (none, (kw_TI (fn7_put t m (fn2_first m (fn5_variable x v6)) (fn5_code x v6)) m), 0, 0)) ?_ ?_ ?_ ?_ ?_ ?_ ?_ ?_ ?_ ?_
            · exact ks_W_TI_1_3_o t x m
            · rfl
            · rfl
            · exact ks_W_TI_1_3_s t x m
            · exact ⟨t, m, (fn2_first m (fn5_variable x v6)), (fn5_code x v6), rfl, rfl, q5.2.2.2.1⟩
            · exact fe7_put t m (fn2_first m (fn5_variable x v6)) (fn5_code x v6)
            · exact kwl_TI (fn7_put t m (fn2_first m (fn5_variable x v6)) (fn5_code x v6)) m
            · rfl
            · exact ks_W_TI_1_3_m t x m (fn7_put t m (fn2_first m (fn5_variable x v6)) (fn5_code x v6)) m
            refine am_cy (pre := pr5_close) (f := fm5_close) (a' := [.inr (.inl 0), .inl v6]) (wc := (kw_S x)) (w' := (kw_W (fn7_put t m (fn2_first m (fn5_variable x v6)) (fn5_code x v6)) x m)) (r := (some (.inl (fn5_close x v6)), (kw_S x), 0, 0)) ?_ ?_ ?_ ?_ ?_ ?_ ?_ ?_ ?_ ?_
            · exact ks_W_S_2_o (fn7_put t m (fn2_first m (fn5_variable x v6)) (fn5_code x v6)) x m
            · rfl
            · rfl
            · exact ks_W_S_2_s (fn7_put t m (fn2_first m (fn5_variable x v6)) (fn5_code x v6)) x m
            · exact ⟨x, v6, rfl, rfl, q5.2.2.2.2.1⟩
            · exact fe5_close x v6
            · exact kwl_S x
            · rfl
            · exact ks_W_S_2_m (fn7_put t m (fn2_first m (fn5_variable x v6)) (fn5_code x v6)) x m x
            refine am_cy (pre := prJ_max) (f := fmJ_max) (a' := [.inl (fn5_close x v6), .inl v6]) (wc := []) (w' := (kw_W (fn7_put t m (fn2_first m (fn5_variable x v6)) (fn5_code x v6)) x m)) (r := (some (.inl (fnJ_max (fn5_close x v6) v6)), [], 0, 0)) ?_ ?_ ?_ ?_ ?_ ?_ ?_ ?_ ?_ ?_
            · exact am_sow0 _
            · rfl
            · rfl
            · exact am_sub0 _
            · exact ⟨(fn5_close x v6), v6, rfl, rfl, q5.2.2.2.2.2.1⟩
            · exact feJ_max (fn5_close x v6) v6
            · exact rfl
            · rfl
            · exact am_mix0 _
            have e : fn8_spanB_c11 (fu + 1) K KP t x m v4 v5 v6 = fn8_spanB_c11 fu K KP (fn7_put t m (fn2_first m (fn5_variable x v6)) (fn5_code x v6)) x m v4 v5 ((fnJ_max (fn5_close x v6) v6) + (1 : Int32)) := by
              rw [fn8_spanB_c11]
              rw [if_neg h2, if_pos h3, if_neg h4, if_pos h5]
            rw [e]
            exact ih (fn7_put t m (fn2_first m (fn5_variable x v6)) (fn5_code x v6)) x m v4 v5 ((fnJ_max (fn5_close x v6) v6) + (1 : Int32)) _ g3 q5.2.2.2.2.2.2
          · have q5 := q4.2 h5
            refine am_if (c := (fn5_kind x v6) = (3 : Int32)) (fun h6 => ?_) (fun h6 => ?_)
            · have q6 := q5.1 h6
              refine am_cx (pre := pr8_choice K KP) (f := fm8_choice K KP) (r := (none, (kw_W ((fn8_choice K KP t x m v6 v5).1) x ((fn8_choice K KP t x m v6 v5).2)), 0, 0)) ?_ ?_ ?_ ?_
              · exact ⟨t, x, m, v6, v5, rfl, rfl, q6.1⟩
              · exact fe8_choice K KP t x m v6 v5
              · exact (am_ac rfl (am_ac rfl (am_ac rfl (am_ac g3 (am_ac rfl (am_ac rfl (am_ac rfl am_a0)))))))
              refine am_cy (pre := pr5_close) (f := fm5_close) (a' := [.inr (.inl 0), .inl v6]) (wc := (kw_S x)) (w' := (kw_W ((fn8_choice K KP t x m v6 v5).1) x ((fn8_choice K KP t x m v6 v5).2))) (r := (some (.inl (fn5_close x v6)), (kw_S x), 0, 0)) ?_ ?_ ?_ ?_ ?_ ?_ ?_ ?_ ?_ ?_
              · exact ks_W_S_2_o ((fn8_choice K KP t x m v6 v5).1) x ((fn8_choice K KP t x m v6 v5).2)
              · rfl
              · rfl
              · exact ks_W_S_2_s ((fn8_choice K KP t x m v6 v5).1) x ((fn8_choice K KP t x m v6 v5).2)
              · exact ⟨x, v6, rfl, rfl, q6.2.1⟩
              · exact fe5_close x v6
              · exact kwl_S x
              · rfl
              · exact ks_W_S_2_m ((fn8_choice K KP t x m v6 v5).1) x ((fn8_choice K KP t x m v6 v5).2) x
              refine am_cy (pre := prJ_max) (f := fmJ_max) (a' := [.inl (fn5_close x v6), .inl v6]) (wc := []) (w' := (kw_W ((fn8_choice K KP t x m v6 v5).1) x ((fn8_choice K KP t x m v6 v5).2))) (r := (some (.inl (fnJ_max (fn5_close x v6) v6)), [], 0, 0)) ?_ ?_ ?_ ?_ ?_ ?_ ?_ ?_ ?_ ?_
              · exact am_sow0 _
              · rfl
              · rfl
              · exact am_sub0 _
              · exact ⟨(fn5_close x v6), v6, rfl, rfl, q6.2.2.1⟩
              · exact feJ_max (fn5_close x v6) v6
              · exact rfl
              · rfl
              · exact am_mix0 _
              have e : fn8_spanB_c11 (fu + 1) K KP t x m v4 v5 v6 = fn8_spanB_c11 fu K KP ((fn8_choice K KP t x m v6 v5).1) x ((fn8_choice K KP t x m v6 v5).2) v4 v5 ((fnJ_max (fn5_close x v6) v6) + (1 : Int32)) := by
                rw [fn8_spanB_c11]
                rw [if_neg h2, if_pos h3, if_neg h4, if_neg h5, if_pos h6]
              rw [e]
              exact ih ((fn8_choice K KP t x m v6 v5).1) x ((fn8_choice K KP t x m v6 v5).2) v4 v5 ((fnJ_max (fn5_close x v6) v6) + (1 : Int32)) _ g3 q6.2.2.2
            · have q6 := q5.2 h6
              refine am_if (c := (fn5_kind x v6) = (4 : Int32)) (fun h7 => ?_) (fun h7 => ?_)
              · have q7 := q6.1 h7
                refine am_cx (pre := pr8_loop K KP) (f := fm8_loop K KP) (r := (none, (kw_W ((fn8_loop K KP t x m v6 v5).1) x ((fn8_loop K KP t x m v6 v5).2)), 0, 0)) ?_ ?_ ?_ ?_
                · exact ⟨t, x, m, v6, v5, rfl, rfl, q7.1⟩
                · exact fe8_loop K KP t x m v6 v5
                · exact (am_ac rfl (am_ac rfl (am_ac rfl (am_ac g3 (am_ac rfl (am_ac rfl (am_ac rfl am_a0)))))))
                refine am_cy (pre := pr5_close) (f := fm5_close) (a' := [.inr (.inl 0), .inl v6]) (wc := (kw_S x)) (w' := (kw_W ((fn8_loop K KP t x m v6 v5).1) x ((fn8_loop K KP t x m v6 v5).2))) (r := (some (.inl (fn5_close x v6)), (kw_S x), 0, 0)) ?_ ?_ ?_ ?_ ?_ ?_ ?_ ?_ ?_ ?_
                · exact ks_W_S_2_o ((fn8_loop K KP t x m v6 v5).1) x ((fn8_loop K KP t x m v6 v5).2)
                · rfl
                · rfl
                · exact ks_W_S_2_s ((fn8_loop K KP t x m v6 v5).1) x ((fn8_loop K KP t x m v6 v5).2)
                · exact ⟨x, v6, rfl, rfl, q7.2.1⟩
                · exact fe5_close x v6
                · exact kwl_S x
                · rfl
                · exact ks_W_S_2_m ((fn8_loop K KP t x m v6 v5).1) x ((fn8_loop K KP t x m v6 v5).2) x
                refine am_cy (pre := prJ_max) (f := fmJ_max) (a' := [.inl (fn5_close x v6), .inl v6]) (wc := []) (w' := (kw_W ((fn8_loop K KP t x m v6 v5).1) x ((fn8_loop K KP t x m v6 v5).2))) (r := (some (.inl (fnJ_max (fn5_close x v6) v6)), [], 0, 0)) ?_ ?_ ?_ ?_ ?_ ?_ ?_ ?_ ?_ ?_
                · exact am_sow0 _
                · rfl
                · rfl
                · exact am_sub0 _
                · exact ⟨(fn5_close x v6), v6, rfl, rfl, q7.2.2.1⟩
                · exact feJ_max (fn5_close x v6) v6
                · exact rfl
                · rfl
                · exact am_mix0 _
                have e : fn8_spanB_c11 (fu + 1) K KP t x m v4 v5 v6 = fn8_spanB_c11 fu K KP ((fn8_loop K KP t x m v6 v5).1) x ((fn8_loop K KP t x m v6 v5).2) v4 v5 ((fnJ_max (fn5_close x v6) v6) + (1 : Int32)) := by
                  rw [fn8_spanB_c11]
                  rw [if_neg h2, if_pos h3, if_neg h4, if_neg h5, if_neg h6, if_pos h7]
                rw [e]
                exact ih ((fn8_loop K KP t x m v6 v5).1) x ((fn8_loop K KP t x m v6 v5).2) v4 v5 ((fnJ_max (fn5_close x v6) v6) + (1 : Int32)) _ g3 q7.2.2.2
              · have q7 := q6.2 h7
                refine am_cy (pre := pr5_close) (f := fm5_close) (a' := [.inr (.inl 0), .inl v6]) (wc := (kw_S x)) (w' := (kw_W t x m)) (r := (some (.inl (fn5_close x v6)), (kw_S x), 0, 0)) ?_ ?_ ?_ ?_ ?_ ?_ ?_ ?_ ?_ ?_
                · exact ks_W_S_2_o t x m
                · rfl
                · rfl
                · exact ks_W_S_2_s t x m
                · exact ⟨x, v6, rfl, rfl, q7.1⟩
                · exact fe5_close x v6
                · exact kwl_S x
                · rfl
                · exact ks_W_S_2_m t x m x
                refine am_cy (pre := prJ_max) (f := fmJ_max) (a' := [.inl (fn5_close x v6), .inl v6]) (wc := []) (w' := (kw_W t x m)) (r := (some (.inl (fnJ_max (fn5_close x v6) v6)), [], 0, 0)) ?_ ?_ ?_ ?_ ?_ ?_ ?_ ?_ ?_ ?_
                · exact am_sow0 _
                · rfl
                · rfl
                · exact am_sub0 _
                · exact ⟨(fn5_close x v6), v6, rfl, rfl, q7.2.1⟩
                · exact feJ_max (fn5_close x v6) v6
                · exact rfl
                · rfl
                · exact am_mix0 _
                have e : fn8_spanB_c11 (fu + 1) K KP t x m v4 v5 v6 = fn8_spanB_c11 fu K KP t x m v4 v5 ((fnJ_max (fn5_close x v6) v6) + (1 : Int32)) := by
                  rw [fn8_spanB_c11]
                  rw [if_neg h2, if_pos h3, if_neg h4, if_neg h5, if_neg h6, if_neg h7]
                rw [e]
                exact ih t x m v4 v5 ((fnJ_max (fn5_close x v6) v6) + (1 : Int32)) _ g3 q7.2.2
      · have e : fn8_spanB_c11 (fu + 1) K KP t x m v4 v5 v6 = (t, m) := by
          rw [fn8_spanB_c11]
          rw [if_neg h2, if_neg h3]
        rw [e] <;> rfl
noncomputable def fn8_spanB (K : qt6 → qt5 → qt2 → Int32 → Int32 → Int32 → qt6 × qt2) (KP : qt6 → qt5 → qt2 → Int32 → Int32 → Int32 → Prop) (t : qt6) (x : qt5) (m : qt2) (p2 : Int32) (p3 : Int32) (p4 : Int32) : qt6 × qt2 := Classical.choose (⟨_, rfl⟩ : ∃ z : qt6 × qt2, z = (if p4 ≤ (6 : Int32) then (fn8_spanB_c11 hg_fu K KP t x m p3 p4 p2) else (t, m)))
theorem fq8_spanB (K : qt6 → qt5 → qt2 → Int32 → Int32 → Int32 → qt6 × qt2) (KP : qt6 → qt5 → qt2 → Int32 → Int32 → Int32 → Prop) (t : qt6) (x : qt5) (m : qt2) (p2 : Int32) (p3 : Int32) (p4 : Int32) : fn8_spanB K KP t x m p2 p3 p4 = (if p4 ≤ (6 : Int32) then (fn8_spanB_c11 hg_fu K KP t x m p3 p4 p2) else (t, m)) := Classical.choose_spec (⟨_, rfl⟩ : ∃ z : qt6 × qt2, z = (if p4 ≤ (6 : Int32) then (fn8_spanB_c11 hg_fu K KP t x m p3 p4 p2) else (t, m)))
def wp8_spanB (K : qt6 → qt5 → qt2 → Int32 → Int32 → Int32 → qt6 × qt2) (KP : qt6 → qt5 → qt2 → Int32 → Int32 → Int32 → Prop) (t : qt6) (x : qt5) (m : qt2) (p2 : Int32) (p3 : Int32) (p4 : Int32) : Prop := ((p4 ≤ (6 : Int32) → (wp8_spanB_c11 hg_fu K KP t x m p3 p4 p2)) ∧ (¬ p4 ≤ (6 : Int32) → True))
set_option maxRecDepth 100000 in
set_option maxHeartbeats 4000000 in
theorem re8_spanB (K : qt6 → qt5 → qt2 → Int32 → Int32 → Int32 → qt6 × qt2) (KP : qt6 → qt5 → qt2 → Int32 → Int32 → Int32 → Prop) (t : qt6) (x : qt5) (m : qt2) (p2 : Int32) (p3 : Int32) (p4 : Int32) (hp : wp8_spanB K KP t x m p2 p3 p4) : am_lf (am_mk (kb8_spanB K KP) 0 0 16) [11] (0, am_L0 [.inr (.inl 0), .inr (.inl 3), .inr (.inl 11), .inl p2, .inl p3, .inl p4] 7, [], (kw_W t x m), 0, 0) = some (none, (kw_W ((fn8_spanB K KP t x m p2 p3 p4).1) x ((fn8_spanB K KP t x m p2 p3 p4).2))) := by
  unfold wp8_spanB at hp
  have i11 := @rc8_spanB_11 K KP
  refine am_lf_eq ?_
  generalize am_lf (am_mk (kb8_spanB K KP) 0 0 16) [11] = kt at i11 ⊢
  refine am_if (c := p4 ≤ (6 : Int32)) (fun h1 => ?_) (fun h1 => ?_)
  · have q1 := hp.1 h1
    have e : fn8_spanB K KP t x m p2 p3 p4 = fn8_spanB_c11 hg_fu K KP t x m p3 p4 p2 := by
      rw [fq8_spanB]
      rw [if_pos h1]
    rw [e]
    exact i11 hg_fu t x m p3 p4 p2 _ rfl q1
  · have e : fn8_spanB K KP t x m p2 p3 p4 = (t, m) := by
      rw [fq8_spanB]
      rw [if_neg h1]
    rw [e] <;> rfl
abbrev pr8_spanB (K : qt6 → qt5 → qt2 → Int32 → Int32 → Int32 → qt6 × qt2) (KP : qt6 → qt5 → qt2 → Int32 → Int32 → Int32 → Prop) : List am_V → List am_C → Prop := fun a w => ∃ (t : qt6) (x : qt5) (m : qt2) (p2 : Int32) (p3 : Int32) (p4 : Int32), a = [.inr (.inl 0), .inr (.inl 3), .inr (.inl 11), .inl p2, .inl p3, .inl p4] ∧ w = (kw_W t x m) ∧ wp8_spanB K KP t x m p2 p3 p4
noncomputable def fm8_spanB (K : qt6 → qt5 → qt2 → Int32 → Int32 → Int32 → qt6 × qt2) (KP : qt6 → qt5 → qt2 → Int32 → Int32 → Int32 → Prop) : am_M := fun a w => (fun (z : qt6 × qt2) => (none, (kw_W (z.1) (qs5 w 3) (z.2)), 0, 0)) (fn8_spanB K KP (qs6 w 1) (qs5 w 3) (qs2 w 11) (am_i (am_an a 3)) (am_i (am_an a 4)) (am_i (am_an a 5)))
theorem fe8_spanB (K : qt6 → qt5 → qt2 → Int32 → Int32 → Int32 → qt6 × qt2) (KP : qt6 → qt5 → qt2 → Int32 → Int32 → Int32 → Prop) (t : qt6) (x : qt5) (m : qt2) (p2 : Int32) (p3 : Int32) (p4 : Int32) : fm8_spanB K KP [.inr (.inl 0), .inr (.inl 3), .inr (.inl 11), .inl p2, .inl p3, .inl p4] (kw_W t x m) = (none, (kw_W ((fn8_spanB K KP t x m p2 p3 p4).1) x ((fn8_spanB K KP t x m p2 p3 p4).2)), 0, 0) := rfl
set_option maxRecDepth 100000 in
set_option maxHeartbeats 4000000 in
theorem rn8_spanB (K : qt6 → qt5 → qt2 → Int32 → Int32 → Int32 → qt6 × qt2) (KP : qt6 → qt5 → qt2 → Int32 → Int32 → Int32 → Prop) : ∀ (a : List am_V) (w : List am_C), pr8_spanB K KP a w → ∃ nq, am_ev (am_mk (kb8_spanB K KP) (fm8_spanB K KP a w).2.2.1 (fm8_spanB K KP a w).2.2.2 w.length) [11] nq (0, am_L0 a 7, [], w, 0, 0) = some ((fm8_spanB K KP a w).1, (fm8_spanB K KP a w).2.1) := by
  rintro a w ⟨t, x, m, p2, p3, p4, rfl, rfl, hp⟩
  rw [fe8_spanB K KP t x m p2 p3 p4]
  exact am_lf_ev (re8_spanB K KP t x m p2 p3 p4 hp)
theorem rl8_spanB (K : qt6 → qt5 → qt2 → Int32 → Int32 → Int32 → qt6 × qt2) (KP : qt6 → qt5 → qt2 → Int32 → Int32 → Int32 → Prop) : ∀ (a : List am_V) (w : List am_C), pr8_spanB K KP a w → a.length ≤ 7 := by
  rintro a w ⟨t, x, m, p2, p3, p4, rfl, rfl, hp⟩
  exact Nat.le_of_ble_eq_true rfl
theorem pa8_spanB (K : qt6 → qt5 → qt2 → Int32 → Int32 → Int32 → qt6 × qt2) (KP : qt6 → qt5 → qt2 → Int32 → Int32 → Int32 → Prop) : ∀ a w, pr8_spanB K KP a w → ∃ q a' ci fs r, a = .inr (.inl q) :: a' ∧ w[q]? = some (.inr (ci, fs)) ∧ hn_cl[ci]? = some r ∧ r.1 = hn_R8 := by
  rintro a w ⟨t, x, m, p2, p3, p4, rfl, rfl, hp⟩
  exact ⟨0, _, 8, _, _, rfl, rfl, rfl, rfl⟩
set_option maxRecDepth 100000 in
set_option maxHeartbeats 4000000 in
theorem km8_spanB {l : Launch} {E : (Nat → Prop) → State → Prop} {D : va_G} {ou : Nat → Nat} {ca : Nat → ClassId} {K : qt6 → qt5 → qt2 → Int32 → Int32 → Int32 → qt6 × qt2} {KP : qt6 → qt5 → qt2 → Int32 → Int32 → Int32 → Prop} {h : Nat} (hE : hg_E E ou) (hh : 20 ≤ h) (hM : hg_Met l E D ou ca hy8_span prog_10_method_3_code 7 none h (pr8_spanA KP) (fm8_spanA K)) : hg_Met l E D ou ca hy8_span prog_10_method_3_code 7 none (h + 2) (pr8_spanB K KP) (fm8_spanB K KP) := by
  refine am_met (B := (kb8_spanB K KP)) (cuts := [11]) (nt := 5) (by decide +kernel) rfl rfl (hg_tys_ok ca) ?_ (by decide) (rl8_spanB K KP) ?_ (rn8_spanB K KP)
  · exact fun t ht => List.mem_cons_of_mem _ (hg_arr t ht)
  · intro a w hp ad p e R s m args below meth c hR X hEs hnm
    have hR1 : (h + 2) ≤ R.frames ∧ 40 * (h + 2) ≤ R.locals := by rw [hR]; exact ⟨Nat.le_refl _, Nat.le_refl _⟩
    have hN := hE.2.1 _ _ hEs
    refine ⟨kd8_span_ok, fun index ci fi mode hq => kf8_ok X.2.2.2.2.1 hN.1 (index, ci, fi, mode) (am_as_mem hq), fun index ci fs hq => (am_no hq).elim, fun x v hq => (am_no hq).elim, ?_, fun o t n f hq => (am_no hq).elim, rfl, rfl, by rw [hR]; exact Nat.le_refl _, by rw [hR]; exact Nat.le_refl _⟩
    intro pc sel n0 pre0 f0 hq
    have hz : ∀ q ∈ (ki8_spanB K KP), am_CK p l e R s m args below meth c D hn_cl (va_A (am_w ad ou ca w) s.heap.size) ou ca 7 q.1 q.2.2.1 q.2.2.2.1 q.2.2.2.2 := by
      refine am_allc (am_ck_V (n := 1) X hEs hE.1 (km5_kind hE) (hg_good (gw_mem 338 (by decide +kernel))) rfl (List.mem_cons_of_mem _ (gw_mem 73 (by decide +kernel))) (List.mem_cons_of_mem _ (gw_mem 773 (by decide +kernel))) (List.mem_cons_of_mem _ (gw_mem 336 (by decide +kernel))) (List.mem_cons_of_mem _ (gw_mem 337 (by decide +kernel))) pa5_kind (by decide +kernel) ⟨by have := hR1.1; omega, by have := hR1.2; omega⟩ (kd8_span_ok (31, .invokevirtual 38, 3) (List.mem_of_getElem? (i := 15) rfl))) (am_allc (am_ck_V (n := 1) X hEs hE.1 (km5_sign hE) (hg_good (gw_mem 352 (by decide +kernel))) rfl (List.mem_cons_of_mem _ (gw_mem 73 (by decide +kernel))) (List.mem_cons_of_mem _ (gw_mem 774 (by decide +kernel))) (List.mem_cons_of_mem _ (gw_mem 350 (by decide +kernel))) (List.mem_cons_of_mem _ (gw_mem 351 (by decide +kernel))) pa5_sign (by decide +kernel) ⟨by have := hR1.1; omega, by have := hR1.2; omega⟩ (kd8_span_ok (71, .invokevirtual 42, 3) (List.mem_of_getElem? (i := 21) rfl))) (am_allc (am_ck_V (n := 1) X hEs hE.1 (km6_put hE) (hg_good (gw_mem 290 (by decide +kernel))) rfl (List.mem_cons_of_mem _ (gw_mem 69 (by decide +kernel))) (List.mem_cons_of_mem _ (gw_mem 775 (by decide +kernel))) (List.mem_cons_of_mem _ (gw_mem 288 (by decide +kernel))) (List.mem_cons_of_mem _ (gw_mem 289 (by decide +kernel))) pa6_put (by decide +kernel) ⟨by have := hR1.1; omega, by have := hR1.2; omega⟩ (kd8_span_ok (74, .invokevirtual 46, 3) (List.mem_of_getElem? (i := 22) rfl))) (am_allc (am_ck_V (n := 1) X hEs hE.1 (km5_variable hE) (hg_good (gw_mem 779 (by decide +kernel))) rfl (List.mem_cons_of_mem _ (gw_mem 73 (by decide +kernel))) (List.mem_cons_of_mem _ (gw_mem 776 (by decide +kernel))) (List.mem_cons_of_mem _ (gw_mem 777 (by decide +kernel))) (List.mem_cons_of_mem _ (gw_mem 778 (by decide +kernel))) pa5_variable (by decide +kernel) ⟨by have := hR1.1; omega, by have := hR1.2; omega⟩ (kd8_span_ok (90, .invokevirtual 50, 3) (List.mem_of_getElem? (i := 31) rfl))) (am_allc (am_ck_V (n := 1) X hEs hE.1 (km2_first hE) (hg_good (gw_mem 783 (by decide +kernel))) rfl (List.mem_cons_of_mem _ (gw_mem 71 (by decide +kernel))) (List.mem_cons_of_mem _ (gw_mem 780 (by decide +kernel))) (List.mem_cons_of_mem _ (gw_mem 781 (by decide +kernel))) (List.mem_cons_of_mem _ (gw_mem 782 (by decide +kernel))) pa2_first (by decide +kernel) ⟨by have := hR1.1; omega, by have := hR1.2; omega⟩ (kd8_span_ok (93, .invokevirtual 53, 3) (List.mem_of_getElem? (i := 32) rfl))) (am_allc (am_ck_V (n := 1) X hEs hE.1 (km5_code hE) (hg_good (gw_mem 795 (by decide +kernel))) rfl (List.mem_cons_of_mem _ (gw_mem 73 (by decide +kernel))) (List.mem_cons_of_mem _ (gw_mem 792 (by decide +kernel))) (List.mem_cons_of_mem _ (gw_mem 793 (by decide +kernel))) (List.mem_cons_of_mem _ (gw_mem 794 (by decide +kernel))) pa5_code (by decide +kernel) ⟨by have := hR1.1; omega, by have := hR1.2; omega⟩ (kd8_span_ok (99, .invokevirtual 58, 3) (List.mem_of_getElem? (i := 35) rfl))) (am_allc (am_ck_S (n := 4) X hEs hE.1 (km7_put hE) (hg_good (gw_mem 798 (by decide +kernel))) rfl (List.mem_cons_of_mem _ (gw_mem 90 (by decide +kernel))) (List.mem_cons_of_mem _ (gw_mem 796 (by decide +kernel))) (List.mem_cons_of_mem _ (gw_mem 797 (by decide +kernel))) (by decide +kernel) ⟨by have := hR1.1; omega, by have := hR1.2; omega⟩ (kd8_span_ok (102, .invokestatic 61, 3) (List.mem_of_getElem? (i := 36) rfl))) (am_allc (am_ck_V (n := 4) X hEs hE.1 (km8_choice hE hh hM) (hg_good (gw_mem 940 (by decide +kernel))) rfl (List.mem_cons_of_mem _ (gw_mem 75 (by decide +kernel))) (List.mem_cons_of_mem _ (gw_mem 937 (by decide +kernel))) (List.mem_cons_of_mem _ (gw_mem 939 (by decide +kernel))) (List.mem_cons_of_mem _ (gw_mem 11 (by decide +kernel))) (pa8_choice K KP) (by decide +kernel) ⟨by have := hR1.1; omega, by have := hR1.2; omega⟩ (kd8_span_ok (115, .invokevirtual 66, 3) (List.mem_of_getElem? (i := 43) rfl))) (am_allc (am_ck_V (n := 4) X hEs hE.1 (km8_loop hE hh hM) (hg_good (gw_mem 953 (by decide +kernel))) rfl (List.mem_cons_of_mem _ (gw_mem 75 (by decide +kernel))) (List.mem_cons_of_mem _ (gw_mem 950 (by decide +kernel))) (List.mem_cons_of_mem _ (gw_mem 952 (by decide +kernel))) (List.mem_cons_of_mem _ (gw_mem 12 (by decide +kernel))) (pa8_loop K KP) (by decide +kernel) ⟨by have := hR1.1; omega, by have := hR1.2; omega⟩ (kd8_span_ok (128, .invokevirtual 70, 3) (List.mem_of_getElem? (i := 50) rfl))) (am_allc (am_ck_V (n := 1) X hEs hE.1 (km5_close hE) (hg_good (gw_mem 949 (by decide +kernel))) rfl (List.mem_cons_of_mem _ (gw_mem 73 (by decide +kernel))) (List.mem_cons_of_mem _ (gw_mem 946 (by decide +kernel))) (List.mem_cons_of_mem _ (gw_mem 947 (by decide +kernel))) (List.mem_cons_of_mem _ (gw_mem 948 (by decide +kernel))) pa5_close (by decide +kernel) ⟨by have := hR1.1; omega, by have := hR1.2; omega⟩ (kd8_span_ok (137, .invokevirtual 73, 3) (List.mem_of_getElem? (i := 54) rfl))) (am_allc (am_ck_max X (List.mem_cons_of_mem _ (gw_mem 964 (by decide +kernel))) (List.mem_cons_of_mem _ (gw_mem 107 (by decide +kernel))) (List.mem_cons_of_mem _ (gw_mem 70 (by decide +kernel))) (List.mem_cons_of_mem _ (gw_mem 108 (by decide +kernel))) ⟨by have := hR1.1; omega, by have := hR1.2; omega⟩ (kd8_span_ok (142, .invokestatic 76, 3) (List.mem_of_getElem? (i := 56) rfl))) (am_all0)))))))))))
    exact hz _ (am_as_mem hq)
noncomputable def fk8_span : Nat → (qt6 → qt5 → qt2 → Int32 → Int32 → Int32 → qt6 × qt2) × (qt6 → qt5 → qt2 → Int32 → Int32 → Int32 → Prop)
  | 0 => (fun t _ m _ _ _ => (t, m), fun _ _ _ _ _ _ => False)
  | rd + 1 => (fn8_spanB (fk8_span rd).1 (fk8_span rd).2, wp8_spanB (fk8_span rd).1 (fk8_span rd).2)
theorem km8_span (rd : Nat) {l : Launch} {E : (Nat → Prop) → State → Prop} {D : va_G} {ou : Nat → Nat} {ca : Nat → ClassId} (hE : hg_E E ou) : hg_Met l E D ou ca hy8_span prog_10_method_3_code 7 none (20 + 2 * rd) (pr8_spanA (fk8_span rd).2) (fm8_spanA (fk8_span rd).1) := by
  induction rd with
  | zero =>
    rintro ad sz a w ⟨t, x, m, p2, p3, p4, rfl, rfl, hp⟩
    exact hp.elim
  | succ rd ih =>
    have h9 : 20 + 2 * (rd + 1) = (20 + 2 * rd) + 2 := by omega
    rw [h9]
    exact km8_spanB hE (Nat.le_add_right _ _) ih
