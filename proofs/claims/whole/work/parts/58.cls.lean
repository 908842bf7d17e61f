noncomputable def ki3_inBlockComment : List (Nat × Option (List Nat) × Nat × (List am_V → List am_C → Prop) × am_M) := [(2, some [0, 1, 2, 3, 4, 5, 6, 7], 2, pr5_sign, fm5_sign), (16, some [0, 1, 2, 3, 4, 5, 6, 7], 2, pr5_sign, fm5_sign)]
noncomputable def kb3_inBlockComment : am_B := (kd3_inBlockComment, am_as kf3, hn_ty, fun _ => none, fun _ => none, am_as ki3_inBlockComment, fun _ => none, 5, 4, (some .int))
noncomputable def fn3_inBlockComment (x : qt5) (c : qt1) (p1 : Int32) : Int32 × qt1 := Classical.choose (⟨_, rfl⟩ : ∃ z : Int32 × qt1, z = (if (fn5_sign x p1) = (42 : Int32) then (if (fn5_sign x (p1 + (1 : Int32))) = (47 : Int32) then ((2 : Int32), (qu1_part c (0 : Int32))) else (if (fn5_sign x (p1 + (1 : Int32))) = 0 then ((0 : Int32), c) else ((1 : Int32), c))) else ((1 : Int32), c)))
theorem fq3_inBlockComment (x : qt5) (c : qt1) (p1 : Int32) : fn3_inBlockComment x c p1 = (if (fn5_sign x p1) = (42 : Int32) then (if (fn5_sign x (p1 + (1 : Int32))) = (47 : Int32) then ((2 : Int32), (qu1_part c (0 : Int32))) else (if (fn5_sign x (p1 + (1 : Int32))) = 0 then ((0 : Int32), c) else ((1 : Int32), c))) else ((1 : Int32), c)) := Classical.choose_spec (⟨_, rfl⟩ : ∃ z : Int32 × qt1, z = (if (fn5_sign x p1) = (42 : Int32) then (if (fn5_sign x (p1 + (1 : Int32))) = (47 : Int32) then ((2 : Int32), (qu1_part c (0 : Int32))) else (if (fn5_sign x (p1 + (1 : Int32))) = 0 then ((0 : Int32), c) else ((1 : Int32), c))) else ((1 : Int32), c)))
def wp3_inBlockComment (x : qt5) (c : qt1) (p1 : Int32) : Prop := ((wp5_sign x p1) ∧ (((fn5_sign x p1) = (42 : Int32) → (wp5_sign x (p1 + (1 : Int32)))) ∧ (¬ (fn5_sign x p1) = (42 : Int32) → True)))
set_option maxRecDepth 100000 in
set_option maxHeartbeats 4000000 in
theorem re3_inBlockComment (x : qt5) (c : qt1) (p1 : Int32) (hp : wp3_inBlockComment x c p1) : am_lf (am_mk kb3_inBlockComment 0 0 9) [] (0, am_L0 [.inr (.inl 0), .inl p1, .inr (.inl 8)] 4, [], (kw_SC x c), 0, 0) = some (some (.inl ((fn3_inBlockComment x c p1).1)), (kw_SC x ((fn3_inBlockComment x c p1).2))) := by
  unfold wp3_inBlockComment at hp
  refine am_lf_eq ?_
  generalize am_lf (am_mk kb3_inBlockComment 0 0 9) [] = kt
  refine am_cy (pre := pr5_sign) (f := fm5_sign) (a' := [.inr (.inl 0), .inl p1]) (wc := (kw_S x)) (w' := (kw_SC x c)) (r := (some (.inl (fn5_sign x p1)), (kw_S x), 0, 0)) ?_ ?_ ?_ ?_ ?_ ?_ ?_ ?_ ?_ ?_
  · exact ks_SC_S_0_o x c
  · rfl
  · rfl
  · exact ks_SC_S_0_s x c
  · exact ⟨x, p1, rfl, rfl, hp.1⟩
  · exact fe5_sign x p1
  · exact kwl_S x
  · rfl
  · exact ks_SC_S_0_m x c x
  refine am_if (c := (fn5_sign x p1) = (42 : Int32)) (fun h1 => ?_) (fun h1 => ?_)
  · have q1 := hp.2.1 h1
    refine am_cy (pre := pr5_sign) (f := fm5_sign) (a' := [.inr (.inl 0), .inl (p1 + (1 : Int32))]) (wc := (kw_S x)) (w' := (kw_SC x c)) (r := (some (.inl (fn5_sign x (p1 + (1 : Int32)))), (kw_S x), 0, 0)) ?_ ?_ ?_ ?_ ?_ ?_ ?_ ?_ ?_ ?_
    · exact ks_SC_S_0_o x c
    · rfl
    · rfl
    · exact ks_SC_S_0_s x c
    · exact ⟨x, (p1 + (1 : Int32)), rfl, rfl, q1⟩
    · exact fe5_sign x (p1 + (1 : Int32))
    · exact kwl_S x
    · rfl
    · exact ks_SC_S_0_m x c x
    refine am_if (c := (fn5_sign x (p1 + (1 : Int32))) = (47 : Int32)) (fun h2 => ?_) (fun h2 => ?_)
    · refine am_sp (w' := (kw_SC x (qu1_part c (0 : Int32)))) (kp_SC_1_part x c (0 : Int32)) ?_
      have e : fn3_inBlockComment x c p1 = ((2 : Int32), (qu1_part c (0 : Int32))) := by
        rw [fq3_inBlockComment]
        rw [if_pos h1, if_pos h2]
      rw [e] <;> rfl
    · refine am_if (c := (fn5_sign x (p1 + (1 : Int32))) = 0) (fun h3 => ?_) (fun h3 => ?_)
      · have e : fn3_inBlockComment x c p1 = ((0 : Int32), c) := by
          rw [fq3_inBlockComment]
          rw [if_pos h1, if_neg h2, if_pos h3]
        rw [e] <;> rfl
      · have e : fn3_inBlockComment x c p1 = ((1 : Int32), c) := by
          rw [fq3_inBlockComment]
          rw [if_pos h1, if_neg h2, if_neg h3]
        rw [e] <;> rfl
  · have e : fn3_inBlockComment x c p1 = ((1 : Int32), c) := by
      rw [fq3_inBlockComment]
      rw [if_neg h1]
    rw [e] <;> rfl
abbrev pr3_inBlockComment : List am_V → List am_C → Prop := fun a w => ∃ (x : qt5) (c : qt1) (p1 : Int32), a = [.inr (.inl 0), .inl p1, .inr (.inl 8)] ∧ w = (kw_SC x c) ∧ wp3_inBlockComment x c p1
noncomputable def fm3_inBlockComment : am_M := fun a w => (fun (z : Int32 × qt1) => (some (.inl (z.1)), (kw_SC (qs5 w 0) (z.2)), 0, 0)) (fn3_inBlockComment (qs5 w 0) (qs1 w 8) (am_i (am_an a 1)))
theorem fe3_inBlockComment (x : qt5) (c : qt1) (p1 : Int32) : fm3_inBlockComment [.inr (.inl 0), .inl p1, .inr (.inl 8)] (kw_SC x c) = (some (.inl ((fn3_inBlockComment x c p1).1)), (kw_SC x ((fn3_inBlockComment x c p1).2)), 0, 0) := rfl
set_option maxRecDepth 100000 in
set_option maxHeartbeats 4000000 in
theorem rn3_inBlockComment : ∀ (a : List am_V) (w : List am_C), pr3_inBlockComment a w → ∃ nq, am_ev (am_mk kb3_inBlockComment (fm3_inBlockComment a w).2.2.1 (fm3_inBlockComment a w).2.2.2 w.length) [] nq (0, am_L0 a 4, [], w, 0, 0) = some ((fm3_inBlockComment a w).1, (fm3_inBlockComment a w).2.1) := by
  rintro a w ⟨x, c, p1, rfl, rfl, hp⟩
  rw [fe3_inBlockComment x c p1]
  exact am_lf_ev (re3_inBlockComment x c p1 hp)
theorem rl3_inBlockComment : ∀ (a : List am_V) (w : List am_C), pr3_inBlockComment a w → a.length ≤ 4 := by
  rintro a w ⟨x, c, p1, rfl, rfl, hp⟩
  exact Nat.le_of_ble_eq_true rfl
set_option maxRecDepth 100000 in
set_option maxHeartbeats 4000000 in
theorem km3_inBlockComment {l : Launch} {E : (Nat → Prop) → State → Prop} {D : va_G} {ou : Nat → Nat} {ca : Nat → ClassId} (hE : hg_E E ou) : hg_Met l E D ou ca hy3_inBlockComment prog_5_method_18_code 4 (some .int) 1 pr3_inBlockComment fm3_inBlockComment := by
  refine am_met (B := kb3_inBlockComment) (cuts := []) (nt := 5) (by decide +kernel) rfl rfl (hg_tys_ok ca) ?_ (by decide) rl3_inBlockComment ?_ rn3_inBlockComment
  · exact fun t ht => List.mem_cons_of_mem _ (hg_arr t ht)
  · intro a w hp ad p e R s m args below meth c hR X hEs hnm
    have hR1 : 1 ≤ R.frames ∧ 40 ≤ R.locals := by rw [hR]; exact ⟨Nat.le_refl _, Nat.le_refl _⟩
    have hN := hE.2.1 _ _ hEs
    refine ⟨kd3_inBlockComment_ok, fun index ci fi mode hq => kf3_ok X.2.2.2.2.1 hN.1 (index, ci, fi, mode) (am_as_mem hq), fun index ci fs hq => (am_no hq).elim, fun x v hq => (am_no hq).elim, ?_, fun o t n f hq => (am_no hq).elim, rfl, rfl, by rw [hR]; exact Nat.le_refl _, by rw [hR]; exact Nat.le_refl _⟩
    intro pc sel n0 pre0 f0 hq
    have hz : ∀ q ∈ ki3_inBlockComment, am_CK p l e R s m args below meth c D hn_cl (va_A (am_w ad ou ca w) s.heap.size) ou ca 4 q.1 q.2.2.1 q.2.2.2.1 q.2.2.2.2 := by
      refine am_allc (am_ck_V (n := 1) X hEs hE.1 (km5_sign hE) (hg_good (gw_mem 352 (by decide +kernel))) rfl (List.mem_cons_of_mem _ (gw_mem 73 (by decide +kernel))) (List.mem_cons_of_mem _ (gw_mem 349 (by decide +kernel))) (List.mem_cons_of_mem _ (gw_mem 350 (by decide +kernel))) (List.mem_cons_of_mem _ (gw_mem 351 (by decide +kernel))) pa5_sign (by decide +kernel) ⟨Nat.le_trans (by decide) hR1.1, Nat.le_trans (by decide) hR1.2⟩ (kd3_inBlockComment_ok (2, .invokevirtual 36, 3) (List.mem_of_getElem? (i := 2) rfl))) (am_allc (am_ck_V (n := 1) X hEs hE.1 (km5_sign hE) (hg_good (gw_mem 352 (by decide +kernel))) rfl (List.mem_cons_of_mem _ (gw_mem 73 (by decide +kernel))) (List.mem_cons_of_mem _ (gw_mem 349 (by decide +kernel))) (List.mem_cons_of_mem _ (gw_mem 350 (by decide +kernel))) (List.mem_cons_of_mem _ (gw_mem 351 (by decide +kernel))) pa5_sign (by decide +kernel) ⟨Nat.le_trans (by decide) hR1.1, Nat.le_trans (by decide) hR1.2⟩ (kd3_inBlockComment_ok (16, .invokevirtual 36, 3) (List.mem_of_getElem? (i := 11) rfl))) (am_all0))
    exact hz _ (am_as_mem hq)
noncomputable def ki3_inString : List (Nat × Option (List Nat) × Nat × (List am_V → List am_C → Prop) × am_M) := [(2, some [0, 1, 2, 3, 4, 5, 6, 7], 2, pr5_sign, fm5_sign), (54, some [0, 1, 2, 3, 4, 5, 6, 7], 2, pr5_sign, fm5_sign)]
noncomputable def kb3_inString : am_B := (kd3_inString, am_as kf3, hn_ty, fun _ => none, fun _ => none, am_as ki3_inString, fun _ => none, 5, 6, (some .int))
noncomputable def fn3_inString_c107 (x : qt5) (c : qt1) : Int32 × qt1 := ((0 : Int32), c)
def wp3_inString_c107 (x : qt5) (c : qt1) : Prop := True
set_option maxRecDepth 100000 in
set_option maxHeartbeats 4000000 in
theorem rc3_inString_107 (x : qt5) (c : qt1) (j1 : Option am_V) (j3 : Option am_V) (j4 : Option am_V) (j5 : Option am_V) (g1 : am_loO 9 j1 = true) (g3 : am_loO 9 j3 = true) (g4 : am_loO 9 j4 = true) (g5 : am_loO 9 j5 = true) (hp : wp3_inString_c107 x c) : am_lf (am_mk kb3_inString 0 0 9) [22, 80, 81, 107] (107, [some (.inr (.inl 0)), j1, some (.inr (.inl 8)), j3, j4, j5], [], (kw_SC x c), 0, 0) = some (some (.inl ((fn3_inString_c107 x c).1)), (kw_SC x ((fn3_inString_c107 x c).2))) := by
  unfold wp3_inString_c107 at hp
  refine am_lf_eq ?_
  generalize am_lf (am_mk kb3_inString 0 0 9) [22, 80, 81, 107] = kt
  have e : fn3_inString_c107 x c = ((0 : Int32), c) := by
    rw [fn3_inString_c107]
  rw [e] <;> rfl
noncomputable def fn3_inString_c81 (x : qt5) (c : qt1) (v4 : Int32) (u0 : Int32) : Int32 × qt1 := (if v4 = 0 then (fn3_inString_c107 x c) else (if v4 = (60 : Int32) then (fn3_inString_c107 x c) else (if v4 = (38 : Int32) then (fn3_inString_c107 x c) else (if u0 = 0 then ((2 : Int32), c) else (fn3_inString_c107 x c)))))
def wp3_inString_c81 (x : qt5) (c : qt1) (v4 : Int32) (u0 : Int32) : Prop := ((v4 = 0 → (wp3_inString_c107 x c)) ∧ (¬ v4 = 0 → ((v4 = (60 : Int32) → (wp3_inString_c107 x c)) ∧ (¬ v4 = (60 : Int32) → ((v4 = (38 : Int32) → (wp3_inString_c107 x c)) ∧ (¬ v4 = (38 : Int32) → ((u0 = 0 → True) ∧ (¬ u0 = 0 → (wp3_inString_c107 x c)))))))))
set_option maxRecDepth 100000 in
set_option maxHeartbeats 4000000 in
theorem rc3_inString_81 (x : qt5) (c : qt1) (v4 : Int32) (u0 : Int32) (j1 : Option am_V) (j3 : Option am_V) (j5 : Option am_V) (g1 : am_loO 9 j1 = true) (g3 : am_loO 9 j3 = true) (g5 : am_loO 9 j5 = true) (hp : wp3_inString_c81 x c v4 u0) : am_lf (am_mk kb3_inString 0 0 9) [22, 80, 81, 107] (81, [some (.inr (.inl 0)), j1, some (.inr (.inl 8)), j3, some (.inl v4), j5], [.inl u0], (kw_SC x c), 0, 0) = some (some (.inl ((fn3_inString_c81 x c v4 u0).1)), (kw_SC x ((fn3_inString_c81 x c v4 u0).2))) := by
  unfold wp3_inString_c81 at hp
  have i107 := @rc3_inString_107
  refine am_lf_eq ?_
  generalize am_lf (am_mk kb3_inString 0 0 9) [22, 80, 81, 107] = kt at i107 ⊢
  refine am_if (c := v4 = 0) (fun h1 => ?_) (fun h1 => ?_)
  · have q1 := hp.1 h1
    have e : fn3_inString_c81 x c v4 u0 = fn3_inString_c107 x c := by
      rw [fn3_inString_c81]
      rw [if_pos h1]
    rw [e]
    exact i107 x c _ _ _ _ g1 g3 rfl rfl q1
  · have q1 := hp.2 h1
    refine am_if (c := v4 = (60 : Int32)) (fun h2 => ?_) (fun h2 => ?_)
    · have q2 := q1.1 h2
      have e : fn3_inString_c81 x c v4 u0 = fn3_inString_c107 x c := by
        rw [fn3_inString_c81]
        rw [if_neg h1, if_pos h2]
      rw [e]
      exact i107 x c _ _ _ _ g1 g3 rfl rfl q2
    · have q2 := q1.2 h2
      refine am_if (c := v4 = (38 : Int32)) (fun h3 => ?_) (fun h3 => ?_)
      · have q3 := q2.1 h3
        have e : fn3_inString_c81 x c v4 u0 = fn3_inString_c107 x c := by
          rw [fn3_inString_c81]
          rw [if_neg h1, if_neg h2, if_pos h3]
        rw [e]
        exact i107 x c _ _ _ _ g1 g3 rfl rfl q3
      · have q3 := q2.2 h3
        refine am_if (c := u0 = 0) (fun h4 => ?_) (fun h4 => ?_)
        · have e : fn3_inString_c81 x c v4 u0 = ((2 : Int32), c) := by
            rw [fn3_inString_c81]
            rw [if_neg h1, if_neg h2, if_neg h3, if_pos h4]
          rw [e] <;> rfl
        · have q4 := q3.2 h4
          have e : fn3_inString_c81 x c v4 u0 = fn3_inString_c107 x c := by
            rw [fn3_inString_c81]
            rw [if_neg h1, if_neg h2, if_neg h3, if_neg h4]
          rw [e]
          exact i107 x c _ _ _ _ g1 g3 rfl rfl q4
noncomputable def fn3_inString_c80 (x : qt5) (c : qt1) (v4 : Int32) : Int32 × qt1 := (fn3_inString_c81 x c v4 (0 : Int32))
def wp3_inString_c80 (x : qt5) (c : qt1) (v4 : Int32) : Prop := (wp3_inString_c81 x c v4 (0 : Int32))
set_option maxRecDepth 100000 in
set_option maxHeartbeats 4000000 in
theorem rc3_inString_80 (x : qt5) (c : qt1) (v4 : Int32) (j1 : Option am_V) (j3 : Option am_V) (j5 : Option am_V) (g1 : am_loO 9 j1 = true) (g3 : am_loO 9 j3 = true) (g5 : am_loO 9 j5 = true) (hp : wp3_inString_c80 x c v4) : am_lf (am_mk kb3_inString 0 0 9) [22, 80, 81, 107] (80, [some (.inr (.inl 0)), j1, some (.inr (.inl 8)), j3, some (.inl v4), j5], [], (kw_SC x c), 0, 0) = some (some (.inl ((fn3_inString_c80 x c v4).1)), (kw_SC x ((fn3_inString_c80 x c v4).2))) := by
  unfold wp3_inString_c80 at hp
  have i81 := @rc3_inString_81
  refine am_lf_eq ?_
  generalize am_lf (am_mk kb3_inString 0 0 9) [22, 80, 81, 107] = kt at i81 ⊢
  have e : fn3_inString_c80 x c v4 = fn3_inString_c81 x c v4 (0 : Int32) := by
    rw [fn3_inString_c80]
  rw [e]
  exact i81 x c v4 (0 : Int32) _ _ _ g1 g3 g5 hp
noncomputable def fn3_inString_c22 (x : qt5) (c : qt1) (v1 : Int32) (v3 : Int32) (u0 : Int32) (u1 : Int32) : Int32 × qt1 := (if u1 = u0 then ((1 : Int32), (qu1_part c (0 : Int32))) else (if v3 = (92 : Int32) then (if (qg1_name c) = (2 : Int32) then (if (fn5_sign x (v1 + (1 : Int32))) = (qg1_quote c) then (fn3_inString_c81 x c (fn5_sign x (v1 + (1 : Int32))) (1 : Int32)) else (fn3_inString_c80 x c (fn5_sign x (v1 + (1 : Int32))))) else (fn3_inString_c80 x c (fn5_sign x (v1 + (1 : Int32))))) else (if v3 = (10 : Int32) then ((0 : Int32), c) else ((1 : Int32), c))))
def wp3_inString_c22 (x : qt5) (c : qt1) (v1 : Int32) (v3 : Int32) (u0 : Int32) (u1 : Int32) : Prop := ((u1 = u0 → True) ∧ (¬ u1 = u0 → ((v3 = (92 : Int32) → ((wp5_sign x (v1 + (1 : Int32))) ∧ (((qg1_name c) = (2 : Int32) → (((fn5_sign x (v1 + (1 : Int32))) = (qg1_quote c) → (wp3_inString_c81 x c (fn5_sign x (v1 + (1 : Int32))) (1 : Int32))) ∧ (¬ (fn5_sign x (v1 + (1 : Int32))) = (qg1_quote c) → (wp3_inString_c80 x c (fn5_sign x (v1 + (1 : Int32))))))) ∧ (¬ (qg1_name c) = (2 : Int32) → (wp3_inString_c80 x c (fn5_sign x (v1 + (1 : Int32)))))))) ∧ (¬ v3 = (92 : Int32) → True))))
set_option maxRecDepth 100000 in
set_option maxHeartbeats 4000000 in
theorem rc3_inString_22 (x : qt5) (c : qt1) (v1 : Int32) (v3 : Int32) (u0 : Int32) (u1 : Int32) (j4 : Option am_V) (j5 : Option am_V) (g4 : am_loO 9 j4 = true) (g5 : am_loO 9 j5 = true) (hp : wp3_inString_c22 x c v1 v3 u0 u1) : am_lf (am_mk kb3_inString 0 0 9) [22, 80, 81, 107] (22, [some (.inr (.inl 0)), some (.inl v1), some (.inr (.inl 8)), some (.inl v3), j4, j5], [.inl u0, .inl u1], (kw_SC x c), 0, 0) = some (some (.inl ((fn3_inString_c22 x c v1 v3 u0 u1).1)), (kw_SC x ((fn3_inString_c22 x c v1 v3 u0 u1).2))) := by
  unfold wp3_inString_c22 at hp
  have i80 := @rc3_inString_80
  have i81 := @rc3_inString_81
  refine am_lf_eq ?_
  generalize am_lf (am_mk kb3_inString 0 0 9) [22, 80, 81, 107] = kt at i80 i81 ⊢
  refine am_if (c := u1 = u0) (fun h1 => ?_) (fun h1 => ?_)
  · refine am_sp (w' := (kw_SC x (qu1_part c (0 : Int32)))) (kp_SC_1_part x c (0 : Int32)) ?_
    have e : fn3_inString_c22 x c v1 v3 u0 u1 = ((1 : Int32), (qu1_part c (0 : Int32))) := by
      rw [fn3_inString_c22]
      rw [if_pos h1]
    rw [e] <;> rfl
  · have q1 := hp.2 h1
    refine am_if (c := v3 = (92 : Int32)) (fun h2 => ?_) (fun h2 => ?_)
    · have q2 := q1.1 h2
      refine am_cy (pre := pr5_sign) (f := fm5_sign) (a' := [.inr (.inl 0), .inl (v1 + (1 : Int32))]) (wc := (kw_S x)) (w' := (kw_SC x c)) (r := (some (.inl (fn5_sign x (v1 + (1 : Int32)))), (kw_S x), 0, 0)) ?_ ?_ ?_ ?_ ?_ ?_ ?_ ?_ ?_ ?_
      · exact ks_SC_S_0_o x c
      · rfl
      · rfl
      · exact ks_SC_S_0_s x c
      · exact ⟨x, (v1 + (1 : Int32)), rfl, rfl, q2.1⟩
      · exact fe5_sign x (v1 + (1 : Int32))
      · exact kwl_S x
      · rfl
      · exact ks_SC_S_0_m x c x
      refine am_if (c := (qg1_name c) = (2 : Int32)) (fun h3 => ?_) (fun h3 => ?_)
      · have q3 := q2.2.1 h3
        refine am_if (c := (fn5_sign x (v1 + (1 : Int32))) = (qg1_quote c)) (fun h4 => ?_) (fun h4 => ?_)
        · have q4 := q3.1 h4
          have e : fn3_inString_c22 x c v1 v3 u0 u1 = fn3_inString_c81 x c (fn5_sign x (v1 + (1 : Int32))) (1 : Int32) := by
            rw [fn3_inString_c22]
            rw [if_neg h1, if_pos h2, if_pos h3, if_pos h4]
          rw [e]
          exact i81 x c (fn5_sign x (v1 + (1 : Int32))) (1 : Int32) _ _ _ rfl rfl g5 q4
        · have q4 := q3.2 h4
          have e : fn3_inString_c22 x c v1 v3 u0 u1 = fn3_inString_c80 x c (fn5_sign x (v1 + (1 : Int32))) := by
            rw [fn3_inString_c22]
            rw [if_neg h1, if_pos h2, if_pos h3, if_neg h4]
          rw [e]
          exact i80 x c (fn5_sign x (v1 + (1 : Int32))) _ _ _ rfl rfl g5 q4
      · have q3 := q2.2.2 h3
        have e : fn3_inString_c22 x c v1 v3 u0 u1 = fn3_inString_c80 x c (fn5_sign x (v1 + (1 : Int32))) := by
          rw [fn3_inString_c22]
          rw [if_neg h1, if_pos h2, if_neg h3]
        rw [e]
        exact i80 x c (fn5_sign x (v1 + (1 : Int32))) _ _ _ rfl rfl g5 q3
    · refine am_if (c := v3 = (10 : Int32)) (fun h3 => ?_) (fun h3 => ?_)
      · have e : fn3_inString_c22 x c v1 v3 u0 u1 = ((0 : Int32), c) := by
          rw [fn3_inString_c22]
          rw [if_neg h1, if_neg h2, if_pos h3]
        rw [e] <;> rfl
      · have e : fn3_inString_c22 x c v1 v3 u0 u1 = ((1 : Int32), c) := by
          rw [fn3_inString_c22]
          rw [if_neg h1, if_neg h2, if_neg h3]
        rw [e] <;> rfl
noncomputable def fn3_inString (x : qt5) (c : qt1) (p1 : Int32) : Int32 × qt1 := Classical.choose (⟨_, rfl⟩ : ∃ z : Int32 × qt1, z = (if (qg1_part c) = (1 : Int32) then (fn3_inString_c22 x c p1 (fn5_sign x p1) (39 : Int32) (fn5_sign x p1)) else (fn3_inString_c22 x c p1 (fn5_sign x p1) (34 : Int32) (fn5_sign x p1))))
theorem fq3_inString (x : qt5) (c : qt1) (p1 : Int32) : fn3_inString x c p1 = (if (qg1_part c) = (1 : Int32) then (fn3_inString_c22 x c p1 (fn5_sign x p1) (39 : Int32) (fn5_sign x p1)) else (fn3_inString_c22 x c p1 (fn5_sign x p1) (34 : Int32) (fn5_sign x p1))) := Classical.choose_spec (⟨_, rfl⟩ : ∃ z : Int32 × qt1, z = (if (qg1_part c) = (1 : Int32) then (fn3_inString_c22 x c p1 (fn5_sign x p1) (39 : Int32) (fn5_sign x p1)) else (fn3_inString_c22 x c p1 (fn5_sign x p1) (34 : Int32) (fn5_sign x p1))))
def wp3_inString (x : qt5) (c : qt1) (p1 : Int32) : Prop := ((wp5_sign x p1) ∧ (((qg1_part c) = (1 : Int32) → (wp3_inString_c22 x c p1 (fn5_sign x p1) (39 : Int32) (fn5_sign x p1))) ∧ (¬ (qg1_part c) = (1 : Int32) → (wp3_inString_c22 x c p1 (fn5_sign x p1) (34 : Int32) (fn5_sign x p1)))))
set_option maxRecDepth 100000 in
set_option maxHeartbeats 4000000 in
theorem re3_inString (x : qt5) (c : qt1) (p1 : Int32) (hp : wp3_inString x c p1) : am_lf (am_mk kb3_inString 0 0 9) [22, 80, 81, 107] (0, am_L0 [.inr (.inl 0), .inl p1, .inr (.inl 8)] 6, [], (kw_SC x c), 0, 0) = some (some (.inl ((fn3_inString x c p1).1)), (kw_SC x ((fn3_inString x c p1).2))) := by
  unfold wp3_inString at hp
  have i22 := @rc3_inString_22
  refine am_lf_eq ?_
  generalize am_lf (am_mk kb3_inString 0 0 9) [22, 80, 81, 107] = kt at i22 ⊢
  refine am_cy (pre := pr5_sign) (f := fm5_sign) (a' := [.inr (.inl 0), .inl p1]) (wc := (kw_S x)) (w' := (kw_SC x c)) (r := (some (.inl (fn5_sign x p1)), (kw_S x), 0, 0)) ?_ ?_ ?_ ?_ ?_ ?_ ?_ ?_ ?_ ?_
  · exact ks_SC_S_0_o x c
  · rfl
  · rfl
  · exact ks_SC_S_0_s x c
  · exact ⟨x, p1, rfl, rfl, hp.1⟩
  · exact fe5_sign x p1
  · exact kwl_S x
  · rfl
  · exact ks_SC_S_0_m x c x
  refine am_if (c := (qg1_part c) = (1 : Int32)) (fun h1 => ?_) (fun h1 => ?_)
  · have q1 := hp.2.1 h1
    have e : fn3_inString x c p1 = fn3_inString_c22 x c p1 (fn5_sign x p1) (39 : Int32) (fn5_sign x p1) := by
      rw [fq3_inString]
      rw [if_pos h1]
    rw [e]
    exact i22 x c p1 (fn5_sign x p1) (39 : Int32) (fn5_sign x p1) _ _ rfl rfl q1
  · have q1 := hp.2.2 h1
    have e : fn3_inString x c p1 = fn3_inString_c22 x c p1 (fn5_sign x p1) (34 : Int32) (fn5_sign x p1) := by
      rw [fq3_inString]
      rw [if_neg h1]
    rw [e]
    exact i22 x c p1 (fn5_sign x p1) (34 : Int32) (fn5_sign x p1) _ _ rfl rfl q1
abbrev pr3_inString : List am_V → List am_C → Prop := fun a w => ∃ (x : qt5) (c : qt1) (p1 : Int32), a = [.inr (.inl 0), .inl p1, .inr (.inl 8)] ∧ w = (kw_SC x c) ∧ wp3_inString x c p1
noncomputable def fm3_inString : am_M := fun a w => (fun (z : Int32 × qt1) => (some (.inl (z.1)), (kw_SC (qs5 w 0) (z.2)), 0, 0)) (fn3_inString (qs5 w 0) (qs1 w 8) (am_i (am_an a 1)))
theorem fe3_inString (x : qt5) (c : qt1) (p1 : Int32) : fm3_inString [.inr (.inl 0), .inl p1, .inr (.inl 8)] (kw_SC x c) = (some (.inl ((fn3_inString x c p1).1)), (kw_SC x ((fn3_inString x c p1).2)), 0, 0) := rfl
set_option maxRecDepth 100000 in
set_option maxHeartbeats 4000000 in
theorem rn3_inString : ∀ (a : List am_V) (w : List am_C), pr3_inString a w → ∃ nq, am_ev (am_mk kb3_inString (fm3_inString a w).2.2.1 (fm3_inString a w).2.2.2 w.length) [22, 80, 81, 107] nq (0, am_L0 a 6, [], w, 0, 0) = some ((fm3_inString a w).1, (fm3_inString a w).2.1) := by
  rintro a w ⟨x, c, p1, rfl, rfl, hp⟩
  rw [fe3_inString x c p1]
  exact am_lf_ev (re3_inString x c p1 hp)
theorem rl3_inString : ∀ (a : List am_V) (w : List am_C), pr3_inString a w → a.length ≤ 6 := by
  rintro a w ⟨x, c, p1, rfl, rfl, hp⟩
  exact Nat.le_of_ble_eq_true rfl
set_option maxRecDepth 100000 in
set_option maxHeartbeats 4000000 in
theorem km3_inString {l : Launch} {E : (Nat → Prop) → State → Prop} {D : va_G} {ou : Nat → Nat} {ca : Nat → ClassId} (hE : hg_E E ou) : hg_Met l E D ou ca hy3_inString prog_5_method_17_code 6 (some .int) 1 pr3_inString fm3_inString := by
  refine am_met (B := kb3_inString) (cuts := [22, 80, 81, 107]) (nt := 5) (by decide +kernel) rfl rfl (hg_tys_ok ca) ?_ (by decide) rl3_inString ?_ rn3_inString
  · exact fun t ht => List.mem_cons_of_mem _ (hg_arr t ht)
  · intro a w hp ad p e R s m args below meth c hR X hEs hnm
    have hR1 : 1 ≤ R.frames ∧ 40 ≤ R.locals := by rw [hR]; exact ⟨Nat.le_refl _, Nat.le_refl _⟩
    have hN := hE.2.1 _ _ hEs
    refine ⟨kd3_inString_ok, fun index ci fi mode hq => kf3_ok X.2.2.2.2.1 hN.1 (index, ci, fi, mode) (am_as_mem hq), fun index ci fs hq => (am_no hq).elim, fun x v hq => (am_no hq).elim, ?_, fun o t n f hq => (am_no hq).elim, rfl, rfl, by rw [hR]; exact Nat.le_refl _, by rw [hR]; exact Nat.le_refl _⟩
    intro pc sel n0 pre0 f0 hq
    have hz : ∀ q ∈ ki3_inString, am_CK p l e R s m args below meth c D hn_cl (va_A (am_w ad ou ca w) s.heap.size) ou ca 6 q.1 q.2.2.1 q.2.2.2.1 q.2.2.2.2 := by
      refine am_allc (am_ck_V (n := 1) X hEs hE.1 (km5_sign hE) (hg_good (gw_mem 352 (by decide +kernel))) rfl (List.mem_cons_of_mem _ (gw_mem 73 (by decide +kernel))) (List.mem_cons_of_mem _ (gw_mem 349 (by decide +kernel))) (List.mem_cons_of_mem _ (gw_mem 350 (by decide +kernel))) (List.mem_cons_of_mem _ (gw_mem 351 (by decide +kernel))) pa5_sign (by decide +kernel) ⟨Nat.le_trans (by decide) hR1.1, Nat.le_trans (by decide) hR1.2⟩ (kd3_inString_ok (2, .invokevirtual 36, 3) (List.mem_of_getElem? (i := 2) rfl))) (am_allc (am_ck_V (n := 1) X hEs hE.1 (km5_sign hE) (hg_good (gw_mem 352 (by decide +kernel))) rfl (List.mem_cons_of_mem _ (gw_mem 73 (by decide +kernel))) (List.mem_cons_of_mem _ (gw_mem 349 (by decide +kernel))) (List.mem_cons_of_mem _ (gw_mem 350 (by decide +kernel))) (List.mem_cons_of_mem _ (gw_mem 351 (by decide +kernel))) pa5_sign (by decide +kernel) ⟨Nat.le_trans (by decide) hR1.1, Nat.le_trans (by decide) hR1.2⟩ (kd3_inString_ok (54, .invokevirtual 36, 3) (List.mem_of_getElem? (i := 32) rfl))) (am_all0))
    exact hz _ (am_as_mem hq)
noncomputable def ki3_inCode : List (Nat × Option (List Nat) × Nat × (List am_V → List am_C → Prop) × am_M) := [(2, some [0, 1, 2, 3, 4, 5, 6, 7], 2, pr5_sign, fm5_sign), (23, none, 3, pr3_lessThan, fm3_lessThan), (67, none, 3, pr3_inBareCode, fm3_inBareCode), (94, none, 3, pr3_inBlockComment, fm3_inBlockComment), (101, none, 3, pr3_inString, fm3_inString)]
noncomputable def kb3_inCode : am_B := (kd3_inCode, am_as kf3, hn_ty, fun _ => none, fun _ => none, am_as ki3_inCode, fun _ => none, 5, 4, (some .int))
noncomputable def fn3_inCode_c86 (x : qt5) (c : qt1) (u0 : Int32) : Int32 × qt1 := ((1 : Int32), (qu1_part c u0))
def wp3_inCode_c86 (x : qt5) (c : qt1) (u0 : Int32) : Prop := True
set_option maxRecDepth 100000 in
set_option maxHeartbeats 4000000 in
theorem rc3_inCode_86 (x : qt5) (c : qt1) (u0 : Int32) (j1 : Option am_V) (j3 : Option am_V) (g1 : am_loO 9 j1 = true) (g3 : am_loO 9 j3 = true) (hp : wp3_inCode_c86 x c u0) : am_lf (am_mk kb3_inCode 0 0 9) [27, 86] (86, [some (.inr (.inl 0)), j1, some (.inr (.inl 8)), j3], [.inl u0, .inr (.inl 8)], (kw_SC x c), 0, 0) = some (some (.inl ((fn3_inCode_c86 x c u0).1)), (kw_SC x ((fn3_inCode_c86 x c u0).2))) := by
  unfold wp3_inCode_c86 at hp
  refine am_lf_eq ?_
  generalize am_lf (am_mk kb3_inCode 0 0 9) [27, 86] = kt
  refine am_sp (w' := (kw_SC x (qu1_part c u0))) (kp_SC_1_part x c u0) ?_
  have e : fn3_inCode_c86 x c u0 = ((1 : Int32), (qu1_part c u0)) := by
    rw [fn3_inCode_c86]
  rw [e] <;> rfl
noncomputable def fn3_inCode_c27 (x : qt5) (c : qt1) (v1 : Int32) (v3 : Int32) : Int32 × qt1 := (if (qg1_part c) = (0 : Int32) then ((fn3_inBareCode x c v1).1, (fn3_inBareCode x c v1).2) else (if (qg1_part c) = (1 : Int32) then ((fn3_inString x c v1).1, (fn3_inString x c v1).2) else (if (qg1_part c) = (2 : Int32) then ((fn3_inString x c v1).1, (fn3_inString x c v1).2) else (if (qg1_part c) = (3 : Int32) then (if v3 = (10 : Int32) then (fn3_inCode_c86 x c (0 : Int32)) else (fn3_inCode_c86 x c (qg1_part c))) else (if (qg1_part c) = (4 : Int32) then ((fn3_inBlockComment x c v1).1, (fn3_inBlockComment x c v1).2) else ((fn3_inString x c v1).1, (fn3_inString x c v1).2))))))
def wp3_inCode_c27 (x : qt5) (c : qt1) (v1 : Int32) (v3 : Int32) : Prop := (((qg1_part c) = (0 : Int32) → (wp3_inBareCode x c v1)) ∧ (¬ (qg1_part c) = (0 : Int32) → (((qg1_part c) = (1 : Int32) → (wp3_inString x c v1)) ∧ (¬ (qg1_part c) = (1 : Int32) → (((qg1_part c) = (2 : Int32) → (wp3_inString x c v1)) ∧ (¬ (qg1_part c) = (2 : Int32) → (((qg1_part c) = (3 : Int32) → ((v3 = (10 : Int32) → (wp3_inCode_c86 x c (0 : Int32))) ∧ (¬ v3 = (10 : Int32) → (wp3_inCode_c86 x c (qg1_part c))))) ∧ (¬ (qg1_part c) = (3 : Int32) → (((qg1_part c) = (4 : Int32) → (wp3_inBlockComment x c v1)) ∧ (¬ (qg1_part c) = (4 : Int32) → (wp3_inString x c v1)))))))))))
set_option maxRecDepth 100000 in
set_option maxHeartbeats 4000000 in
theorem rc3_inCode_27 (x : qt5) (c : qt1) (v1 : Int32) (v3 : Int32) (hp : wp3_inCode_c27 x c v1 v3) : am_lf (am_mk kb3_inCode 0 0 9) [27, 86] (27, [some (.inr (.inl 0)), some (.inl v1), some (.inr (.inl 8)), some (.inl v3)], [], (kw_SC x c), 0, 0) = some (some (.inl ((fn3_inCode_c27 x c v1 v3).1)), (kw_SC x ((fn3_inCode_c27 x c v1 v3).2))) := by
  unfold wp3_inCode_c27 at hp
  have i86 := @rc3_inCode_86
  refine am_lf_eq ?_
  generalize am_lf (am_mk kb3_inCode 0 0 9) [27, 86] = kt at i86 ⊢
  refine am_if (c := (qg1_part c) = (0 : Int32)) (fun h1 => ?_) (fun h1 => ?_)
  · have q1 := hp.1 h1
    refine am_cx (pre := pr3_inBareCode) (f := fm3_inBareCode) (r := (some (.inl ((fn3_inBareCode x c v1).1)), (kw_SC x ((fn3_inBareCode x c v1).2)), 0, 0)) ?_ ?_ ?_ ?_
    · exact ⟨x, c, v1, rfl, rfl, q1⟩
    · exact fe3_inBareCode x c v1
    · exact rfl
    have e : fn3_inCode_c27 x c v1 v3 = ((fn3_inBareCode x c v1).1, (fn3_inBareCode x c v1).2) := by
      rw [fn3_inCode_c27]
      rw [if_pos h1]
    rw [e] <;> rfl
  · have q1 := hp.2 h1
    refine am_if (c := (qg1_part c) = (1 : Int32)) (fun h2 => ?_) (fun h2 => ?_)
    · have q2 := q1.1 h2
      refine am_cx (pre := pr3_inString) (f := fm3_inString) (r := (some (.inl ((fn3_inString x c v1).1)), (kw_SC x ((fn3_inString x c v1).2)), 0, 0)) ?_ ?_ ?_ ?_
      · exact ⟨x, c, v1, rfl, rfl, q2⟩
      · exact fe3_inString x c v1
      · exact rfl
      have e : fn3_inCode_c27 x c v1 v3 = ((fn3_inString x c v1).1, (fn3_inString x c v1).2) := by
        rw [fn3_inCode_c27]
        rw [if_neg h1, if_pos h2]
      rw [e] <;> rfl
    · have q2 := q1.2 h2
      refine am_if (c := (qg1_part c) = (2 : Int32)) (fun h3 => ?_) (fun h3 => ?_)
      · have q3 := q2.1 h3
        refine am_cx (pre := pr3_inString) (f := fm3_inString) (r := (some (.inl ((fn3_inString x c v1).1)), (kw_SC x ((fn3_inString x c v1).2)), 0, 0)) ?_ ?_ ?_ ?_
        · exact ⟨x, c, v1, rfl, rfl, q3⟩
        · exact fe3_inString x c v1
        · exact rfl
        have e : fn3_inCode_c27 x c v1 v3 = ((fn3_inString x c v1).1, (fn3_inString x c v1).2) := by
          rw [fn3_inCode_c27]
          rw [if_neg h1, if_neg h2, if_pos h3]
        rw [e] <;> rfl
      · have q3 := q2.2 h3
        refine am_if (c := (qg1_part c) = (3 : Int32)) (fun h4 => ?_) (fun h4 => ?_)
        · have q4 := q3.1 h4
          refine am_if (c := v3 = (10 : Int32)) (fun h5 => ?_) (fun h5 => ?_)
          · have q5 := q4.1 h5
            have e : fn3_inCode_c27 x c v1 v3 = fn3_inCode_c86 x c (0 : Int32) := by
              rw [fn3_inCode_c27]
              rw [if_neg h1, if_neg h2, if_neg h3, if_pos h4, if_pos h5]
            rw [e]
            exact i86 x c (0 : Int32) _ _ rfl rfl q5
          · have q5 := q4.2 h5
            have e : fn3_inCode_c27 x c v1 v3 = fn3_inCode_c86 x c (qg1_part c) := by
              rw [fn3_inCode_c27]
              rw [if_neg h1, if_neg h2, if_neg h3, if_pos h4, if_neg h5]
            rw [e]
            exact i86 x c (qg1_part c) _ _ rfl rfl q5
        · have q4 := q3.2 h4
          refine am_if (c := (qg1_part c) = (4 : Int32)) (fun h5 => ?_) (fun h5 => ?_)
          · have q5 := q4.1 h5
            refine am_cx (pre := pr3_inBlockComment) (f := fm3_inBlockComment) (r := (some (.inl ((fn3_inBlockComment x c v1).1)), (kw_SC x ((fn3_inBlockComment x c v1).2)), 0, 0)) ?_ ?_ ?_ ?_
            · exact ⟨x, c, v1, rfl, rfl, q5⟩
            · exact fe3_inBlockComment x c v1
            · exact rfl
            have e : fn3_inCode_c27 x c v1 v3 = ((fn3_inBlockComment x c v1).1, (fn3_inBlockComment x c v1).2) := by
              rw [fn3_inCode_c27]
              rw [if_neg h1, if_neg h2, if_neg h3, if_neg h4, if_pos h5]
            rw [e] <;> rfl
          · have q5 := q4.2 h5
            refine am_cx (pre := pr3_inString) (f := fm3_inString) (r := (some (.inl ((fn3_inString x c v1).1)), (kw_SC x ((fn3_inString x c v1).2)), 0, 0)) ?_ ?_ ?_ ?_
            · exact ⟨x, c, v1, rfl, rfl, q5⟩
            · exact fe3_inString x c v1
            · exact rfl
            have e : fn3_inCode_c27 x c v1 v3 = ((fn3_inString x c v1).1, (fn3_inString x c v1).2) := by
              rw [fn3_inCode_c27]
              rw [if_neg h1, if_neg h2, if_neg h3, if_neg h4, if_neg h5]
            rw [e] <;> rfl
noncomputable def fn3_inCode (x : qt5) (c : qt1) (p1 : Int32) : Int32 × qt1 := Classical.choose (⟨_, rfl⟩ : ∃ z : Int32 × qt1, z = (if (fn5_sign x p1) = (60 : Int32) then (if (qg1_name c) = (2 : Int32) then (fn3_inCode_c27 x c p1 (fn5_sign x p1)) else ((fn3_lessThan x c p1).1, (fn3_lessThan x c p1).2)) else (fn3_inCode_c27 x c p1 (fn5_sign x p1))))
theorem fq3_inCode (x : qt5) (c : qt1) (p1 : Int32) : fn3_inCode x c p1 = (if (fn5_sign x p1) = (60 : Int32) then (if (qg1_name c) = (2 : Int32) then (fn3_inCode_c27 x c p1 (fn5_sign x p1)) else ((fn3_lessThan x c p1).1, (fn3_lessThan x c p1).2)) else (fn3_inCode_c27 x c p1 (fn5_sign x p1))) := Classical.choose_spec (⟨_, rfl⟩ : ∃ z : Int32 × qt1, z = (if (fn5_sign x p1) = (60 : Int32) then (if (qg1_name c) = (2 : Int32) then (fn3_inCode_c27 x c p1 (fn5_sign x p1)) else ((fn3_lessThan x c p1).1, (fn3_lessThan x c p1).2)) else (fn3_inCode_c27 x c p1 (fn5_sign x p1))))
def wp3_inCode (x : qt5) (c : qt1) (p1 : Int32) : Prop := ((wp5_sign x p1) ∧ (((fn5_sign x p1) = (60 : Int32) → (((qg1_name c) = (2 : Int32) → (wp3_inCode_c27 x c p1 (fn5_sign x p1))) ∧ (¬ (qg1_name c) = (2 : Int32) → (wp3_lessThan x c p1)))) ∧ (¬ (fn5_sign x p1) = (60 : Int32) → (wp3_inCode_c27 x c p1 (fn5_sign x p1)))))
set_option maxRecDepth 100000 in
set_option maxHeartbeats 4000000 in
theorem re3_inCode (x : qt5) (c : qt1) (p1 : Int32) (hp : wp3_inCode x c p1) : am_lf (am_mk kb3_inCode 0 0 9) [27, 86] (0, am_L0 [.inr (.inl 0), .inl p1, .inr (.inl 8)] 4, [], (kw_SC x c), 0, 0) = some (some (.inl ((fn3_inCode x c p1).1)), (kw_SC x ((fn3_inCode x c p1).2))) := by
  unfold wp3_inCode at hp
  have i27 := @rc3_inCode_27
  refine am_lf_eq ?_
  generalize am_lf (am_mk kb3_inCode 0 0 9) [27, 86] = kt at i27 ⊢
  refine am_cy (pre := pr5_sign) (f := fm5_sign) (a' := [.inr (.inl 0), .inl p1]) (wc := (kw_S x)) (w' := (kw_SC x c)) (r := (some (.inl (fn5_sign x p1)), (kw_S x), 0, 0)) ?_ ?_ ?_ ?_ ?_ ?_ ?_ ?_ ?_ ?_
  · exact ks_SC_S_0_o x c
  · rfl
  · rfl
  · exact ks_SC_S_0_s x c
  · exact ⟨x, p1, rfl, rfl, hp.1⟩
  · exact fe5_sign x p1
  · exact kwl_S x
  · rfl
  · exact ks_SC_S_0_m x c x
  refine am_if (c := (fn5_sign x p1) = (60 : Int32)) (fun h1 => ?_) (fun h1 => ?_)
  · have q1 := hp.2.1 h1
    refine am_if (c := (qg1_name c) = (2 : Int32)) (fun h2 => ?_) (fun h2 => ?_)
    · have q2 := q1.1 h2
      have e : fn3_inCode x c p1 = fn3_inCode_c27 x c p1 (fn5_sign x p1) := by
        rw [fq3_inCode]
        rw [if_pos h1, if_pos h2]
      rw [e]
      exact i27 x c p1 (fn5_sign x p1)  q2
    · have q2 := q1.2 h2
      refine am_cx (pre := pr3_lessThan) (f := fm3_lessThan) (r := (some (.inl ((fn3_lessThan x c p1).1)), (kw_SC x ((fn3_lessThan x c p1).2)), 0, 0)) ?_ ?_ ?_ ?_
      · exact ⟨x, c, p1, rfl, rfl, q2⟩
      · exact fe3_lessThan x c p1
      · exact rfl
      have e : fn3_inCode x c p1 = ((fn3_lessThan x c p1).1, (fn3_lessThan x c p1).2) := by
        rw [fq3_inCode]
        rw [if_pos h1, if_neg h2]
      rw [e] <;> rfl
  · have q1 := hp.2.2 h1
    have e : fn3_inCode x c p1 = fn3_inCode_c27 x c p1 (fn5_sign x p1) := by
      rw [fq3_inCode]
      rw [if_neg h1]
    rw [e]
    exact i27 x c p1 (fn5_sign x p1)  q1
abbrev pr3_inCode : List am_V → List am_C → Prop := fun a w => ∃ (x : qt5) (c : qt1) (p1 : Int32), a = [.inr (.inl 0), .inl p1, .inr (.inl 8)] ∧ w = (kw_SC x c) ∧ wp3_inCode x c p1
noncomputable def fm3_inCode : am_M := fun a w => (fun (z : Int32 × qt1) => (some (.inl (z.1)), (kw_SC (qs5 w 0) (z.2)), 0, 0)) (fn3_inCode (qs5 w 0) (qs1 w 8) (am_i (am_an a 1)))
theorem fe3_inCode (x : qt5) (c : qt1) (p1 : Int32) : fm3_inCode [.inr (.inl 0), .inl p1, .inr (.inl 8)] (kw_SC x c) = (some (.inl ((fn3_inCode x c p1).1)), (kw_SC x ((fn3_inCode x c p1).2)), 0, 0) := rfl
set_option maxRecDepth 100000 in
set_option maxHeartbeats 4000000 in
theorem rn3_inCode : ∀ (a : List am_V) (w : List am_C), pr3_inCode a w → ∃ nq, am_ev (am_mk kb3_inCode (fm3_inCode a w).2.2.1 (fm3_inCode a w).2.2.2 w.length) [27, 86] nq (0, am_L0 a 4, [], w, 0, 0) = some ((fm3_inCode a w).1, (fm3_inCode a w).2.1) := by
  rintro a w ⟨x, c, p1, rfl, rfl, hp⟩
  rw [fe3_inCode x c p1]
  exact am_lf_ev (re3_inCode x c p1 hp)
theorem rl3_inCode : ∀ (a : List am_V) (w : List am_C), pr3_inCode a w → a.length ≤ 4 := by
  rintro a w ⟨x, c, p1, rfl, rfl, hp⟩
  exact Nat.le_of_ble_eq_true rfl
set_option maxRecDepth 100000 in
set_option maxHeartbeats 4000000 in
theorem km3_inCode {l : Launch} {E : (Nat → Prop) → State → Prop} {D : va_G} {ou : Nat → Nat} {ca : Nat → ClassId} (hE : hg_E E ou) : hg_Met l E D ou ca hy3_inCode prog_5_method_14_code 4 (some .int) 6 pr3_inCode fm3_inCode := by
  refine am_met (B := kb3_inCode) (cuts := [27, 86]) (nt := 5) (by decide +kernel) rfl rfl (hg_tys_ok ca) ?_ (by decide) rl3_inCode ?_ rn3_inCode
  · exact fun t ht => List.mem_cons_of_mem _ (hg_arr t ht)
  · intro a w hp ad p e R s m args below meth c hR X hEs hnm
    have hR1 : 6 ≤ R.frames ∧ 240 ≤ R.locals := by rw [hR]; exact ⟨Nat.le_refl _, Nat.le_refl _⟩
    have hN := hE.2.1 _ _ hEs
    refine ⟨kd3_inCode_ok, fun index ci fi mode hq => kf3_ok X.2.2.2.2.1 hN.1 (index, ci, fi, mode) (am_as_mem hq), fun index ci fs hq => (am_no hq).elim, fun x v hq => (am_no hq).elim, ?_, fun o t n f hq => (am_no hq).elim, rfl, rfl, by rw [hR]; exact Nat.le_refl _, by rw [hR]; exact Nat.le_refl _⟩
    intro pc sel n0 pre0 f0 hq
    have hz : ∀ q ∈ ki3_inCode, am_CK p l e R s m args below meth c D hn_cl (va_A (am_w ad ou ca w) s.heap.size) ou ca 4 q.1 q.2.2.1 q.2.2.2.1 q.2.2.2.2 := by
      refine am_allc (am_ck_V (n := 1) X hEs hE.1 (km5_sign hE) (hg_good (gw_mem 352 (by decide +kernel))) rfl (List.mem_cons_of_mem _ (gw_mem 73 (by decide +kernel))) (List.mem_cons_of_mem _ (gw_mem 349 (by decide +kernel))) (List.mem_cons_of_mem _ (gw_mem 350 (by decide +kernel))) (List.mem_cons_of_mem _ (gw_mem 351 (by decide +kernel))) pa5_sign (by decide +kernel) ⟨Nat.le_trans (by decide) hR1.1, Nat.le_trans (by decide) hR1.2⟩ (kd3_inCode_ok (2, .invokevirtual 36, 3) (List.mem_of_getElem? (i := 2) rfl))) (am_allc (am_ck_S (n := 3) X hEs hE.1 (km3_lessThan hE) (hg_good (gw_mem 489 (by decide +kernel))) rfl (List.mem_cons_of_mem _ (gw_mem 82 (by decide +kernel))) (List.mem_cons_of_mem _ (gw_mem 487 (by decide +kernel))) (List.mem_cons_of_mem _ (gw_mem 488 (by decide +kernel))) (by decide +kernel) ⟨Nat.le_trans (by decide) hR1.1, Nat.le_trans (by decide) hR1.2⟩ (kd3_inCode_ok (23, .invokestatic 143, 3) (List.mem_of_getElem? (i := 14) rfl))) (am_allc (am_ck_S (n := 3) X hEs hE.1 (km3_inBareCode hE) (hg_good (gw_mem 499 (by decide +kernel))) rfl (List.mem_cons_of_mem _ (gw_mem 82 (by decide +kernel))) (List.mem_cons_of_mem _ (gw_mem 497 (by decide +kernel))) (List.mem_cons_of_mem _ (gw_mem 498 (by decide +kernel))) (by decide +kernel) ⟨Nat.le_trans (by decide) hR1.1, Nat.le_trans (by decide) hR1.2⟩ (kd3_inCode_ok (67, .invokestatic 146, 3) (List.mem_of_getElem? (i := 22) rfl))) (am_allc (am_ck_S (n := 3) X hEs hE.1 (km3_inBlockComment hE) (hg_good (gw_mem 502 (by decide +kernel))) rfl (List.mem_cons_of_mem _ (gw_mem 82 (by decide +kernel))) (List.mem_cons_of_mem _ (gw_mem 500 (by decide +kernel))) (List.mem_cons_of_mem _ (gw_mem 501 (by decide +kernel))) (by decide +kernel) ⟨Nat.le_trans (by decide) hR1.1, Nat.le_trans (by decide) hR1.2⟩ (kd3_inCode_ok (94, .invokestatic 149, 3) (List.mem_of_getElem? (i := 38) rfl))) (am_allc (am_ck_S (n := 3) X hEs hE.1 (km3_inString hE) (hg_good (gw_mem 505 (by decide +kernel))) rfl (List.mem_cons_of_mem _ (gw_mem 82 (by decide +kernel))) (List.mem_cons_of_mem _ (gw_mem 503 (by decide +kernel))) (List.mem_cons_of_mem _ (gw_mem 504 (by decide +kernel))) (by decide +kernel) ⟨Nat.le_trans (by decide) hR1.1, Nat.le_trans (by decide) hR1.2⟩ (kd3_inCode_ok (101, .invokestatic 152, 3) (List.mem_of_getElem? (i := 43) rfl))) (am_all0)))))
    exact hz _ (am_as_mem hq)
noncomputable def ki3_inValue : List (Nat × Option (List Nat) × Nat × (List am_V → List am_C → Prop) × am_M) := [(2, some [0, 1, 2, 3, 4, 5, 6, 7], 2, pr5_sign, fm5_sign), (36, some [8], 2, pr1_enterTag, fm1_enterTag), (52, none, 3, pr3_inUrl, fm3_inUrl), (71, some [0, 1, 2, 3, 4, 5, 6, 7], 2, pr3_ampersand, fm3_ampersand), (92, none, 3, pr3_inCode, fm3_inCode)]
noncomputable def kb3_inValue : am_B := (kd3_inValue, am_as kf3, hn_ty, fun _ => none, fun _ => none, am_as ki3_inValue, fun _ => none, 5, 4, (some .int))
noncomputable def fn3_inValue_c31 (x : qt5) (c : qt1) : Int32 × qt1 := ((1 : Int32), (fn1_enterTag c (qg1_element c)))
def wp3_inValue_c31 (x : qt5) (c : qt1) : Prop := (wp1_enterTag c (qg1_element c))
set_option maxRecDepth 100000 in
set_option maxHeartbeats 4000000 in
theorem rc3_inValue_31 (x : qt5) (c : qt1) (j1 : Option am_V) (j3 : Option am_V) (g1 : am_loO 9 j1 = true) (g3 : am_loO 9 j3 = true) (hp : wp3_inValue_c31 x c) : am_lf (am_mk kb3_inValue 0 0 9) [31] (31, [some (.inr (.inl 0)), j1, some (.inr (.inl 8)), j3], [], (kw_SC x c), 0, 0) = some (some (.inl ((fn3_inValue_c31 x c).1)), (kw_SC x ((fn3_inValue_c31 x c).2))) := by
  unfold wp3_inValue_c31 at hp
  refine am_lf_eq ?_
  generalize am_lf (am_mk kb3_inValue 0 0 9) [31] = kt
  refine am_cy (pre := pr1_enterTag) (f := fm1_enterTag) (a' := [.inr (.inl 0), .inl (qg1_element c)]) (wc := (kw_C c)) (w' := (kw_SC x (fn1_enterTag c (qg1_element c)))) (r := (none, (kw_C (fn1_enterTag c (qg1_element c))), 0, 0)) ?_ ?_ ?_ ?_ ?_ ?_ ?_ ?_ ?_ ?_
  · exact ks_SC_C_1_o x c
  · rfl
  · rfl
  · exact ks_SC_C_1_s x c
  · exact ⟨c, (qg1_element c), rfl, rfl, hp⟩
  · exact fe1_enterTag c (qg1_element c)
  · exact kwl_C (fn1_enterTag c (qg1_element c))
  · rfl
  · exact ks_SC_C_1_m x c (fn1_enterTag c (qg1_element c))
  have e : fn3_inValue_c31 x c = ((1 : Int32), (fn1_enterTag c (qg1_element c))) := by
    rw [fn3_inValue_c31]
  rw [e] <;> rfl
noncomputable def fn3_inValue (x : qt5) (c : qt1) (p1 : Int32) : Int32 × qt1 := Classical.choose (⟨_, rfl⟩ : ∃ z : Int32 × qt1, z = (if (fn5_sign x p1) = (qg1_quote c) then (if (qg1_part c) = 0 then (fn3_inValue_c31 x c) else (if (qg1_kind c) = (1 : Int32) then (fn3_inValue_c31 x c) else ((0 : Int32), c))) else (if (qg1_kind c) = (1 : Int32) then ((fn3_inUrl x c p1).1, (fn3_inUrl x c p1).2) else (if (qg1_kind c) = 0 then (if (fn5_sign x p1) = (38 : Int32) then ((fn3_ampersand x p1), c) else ((1 : Int32), c)) else (if (fn5_sign x p1) = (38 : Int32) then ((0 : Int32), c) else ((fn3_inCode x c p1).1, (fn3_inCode x c p1).2))))))
theorem fq3_inValue (x : qt5) (c : qt1) (p1 : Int32) : fn3_inValue x c p1 = (if (fn5_sign x p1) = (qg1_quote c) then (if (qg1_part c) = 0 then (fn3_inValue_c31 x c) else (if (qg1_kind c) = (1 : Int32) then (fn3_inValue_c31 x c) else ((0 : Int32), c))) else (if (qg1_kind c) = (1 : Int32) then ((fn3_inUrl x c p1).1, (fn3_inUrl x c p1).2) else (if (qg1_kind c) = 0 then (if (fn5_sign x p1) = (38 : Int32) then ((fn3_ampersand x p1), c) else ((1 : Int32), c)) else (if (fn5_sign x p1) = (38 : Int32) then ((0 : Int32), c) else ((fn3_inCode x c p1).1, (fn3_inCode x c p1).2))))) := Classical.choose_spec (⟨_, rfl⟩ : ∃ z : Int32 × qt1, z = (if (fn5_sign x p1) = (qg1_quote c) then (if (qg1_part c) = 0 then (fn3_inValue_c31 x c) else (if (qg1_kind c) = (1 : Int32) then (fn3_inValue_c31 x c) else ((0 : Int32), c))) else (if (qg1_kind c) = (1 : Int32) then ((fn3_inUrl x c p1).1, (fn3_inUrl x c p1).2) else (if (qg1_kind c) = 0 then (if (fn5_sign x p1) = (38 : Int32) then ((fn3_ampersand x p1), c) else ((1 : Int32), c)) else (if (fn5_sign x p1) = (38 : Int32) then ((0 : Int32), c) else ((fn3_inCode x c p1).1, (fn3_inCode x c p1).2))))))
def wp3_inValue (x : qt5) (c : qt1) (p1 : Int32) : Prop := ((wp5_sign x p1) ∧ (((fn5_sign x p1) = (qg1_quote c) → (((qg1_part c) = 0 → (wp3_inValue_c31 x c)) ∧ (¬ (qg1_part c) = 0 → (((qg1_kind c) = (1 : Int32) → (wp3_inValue_c31 x c)) ∧ (¬ (qg1_kind c) = (1 : Int32) → True))))) ∧ (¬ (fn5_sign x p1) = (qg1_quote c) → (((qg1_kind c) = (1 : Int32) → (wp3_inUrl x c p1)) ∧ (¬ (qg1_kind c) = (1 : Int32) → (((qg1_kind c) = 0 → (((fn5_sign x p1) = (38 : Int32) → (wp3_ampersand x p1)) ∧ (¬ (fn5_sign x p1) = (38 : Int32) → True))) ∧ (¬ (qg1_kind c) = 0 → (((fn5_sign x p1) = (38 : Int32) → True) ∧ (¬ (fn5_sign x p1) = (38 : Int32) → (wp3_inCode x c p1))))))))))
set_option maxRecDepth 100000 in
set_option maxHeartbeats 4000000 in
theorem re3_inValue (x : qt5) (c : qt1) (p1 : Int32) (hp : wp3_inValue x c p1) : am_lf (am_mk kb3_inValue 0 0 9) [31] (0, am_L0 [.inr (.inl 0), .inl p1, .inr (.inl 8)] 4, [], (kw_SC x c), 0, 0) = some (some (.inl ((fn3_inValue x c p1).1)), (kw_SC x ((fn3_inValue x c p1).2))) := by
  unfold wp3_inValue at hp
  have i31 := @rc3_inValue_31
  refine am_lf_eq ?_
  generalize am_lf (am_mk kb3_inValue 0 0 9) [31] = kt at i31 ⊢
  refine am_cy (pre := pr5_sign) (f := fm5_sign) (a' := [.inr (.inl 0), .inl p1]) (wc := (kw_S x)) (w' := (kw_SC x c)) (r := (some (.inl (fn5_sign x p1)), (kw_S x), 0, 0)) ?_ ?_ ?_ ?_ ?_ ?_ ?_ ?_ ?_ ?_
  · exact ks_SC_S_0_o x c
  · rfl
  · rfl
  · exact ks_SC_S_0_s x c
  · exact ⟨x, p1, rfl, rfl, hp.1⟩
  · exact fe5_sign x p1
  · exact kwl_S x
  · rfl
  · exact ks_SC_S_0_m x c x
  refine am_if (c := (fn5_sign x p1) = (qg1_quote c)) (fun h1 => ?_) (fun h1 => ?_)
  · have q1 := hp.2.1 h1
    refine am_if (c := (qg1_part c) = 0) (fun h2 => ?_) (fun h2 => ?_)
    · have q2 := q1.1 h2
      have e : fn3_inValue x c p1 = fn3_inValue_c31 x c := by
        rw [fq3_inValue]
        rw [if_pos h1, if_pos h2]
      rw [e]
      exact i31 x c _ _ rfl rfl q2
    · have q2 := q1.2 h2
      refine am_if (c := (qg1_kind c) = (1 : Int32)) (fun h3 => ?_) (fun h3 => ?_)
      · have q3 := q2.1 h3
        have e : fn3_inValue x c p1 = fn3_inValue_c31 x c := by
          rw [fq3_inValue]
          rw [if_pos h1, if_neg h2, if_pos h3]
        rw [e]
        exact i31 x c _ _ rfl rfl q3
      · have e : fn3_inValue x c p1 = ((0 : Int32), c) := by
          rw [fq3_inValue]
          rw [if_pos h1, if_neg h2, if_neg h3]
        rw [e] <;> rfl
  · have q1 := hp.2.2 h1
    refine am_if (c := (qg1_kind c) = (1 : Int32)) (fun h2 => ?_) (fun h2 => ?_)
    · have q2 := q1.1 h2
      refine am_cx (pre := pr3_inUrl) (f := fm3_inUrl) (r := (some (.inl ((fn3_inUrl x c p1).1)), (kw_SC x ((fn3_inUrl x c p1).2)), 0, 0)) ?_ ?_ ?_ ?_
      · exact ⟨x, c, p1, rfl, rfl, q2⟩
      · exact fe3_inUrl x c p1
      · exact rfl
      have e : fn3_inValue x c p1 = ((fn3_inUrl x c p1).1, (fn3_inUrl x c p1).2) := by
        rw [fq3_inValue]
        rw [if_neg h1, if_pos h2]
      rw [e] <;> rfl
    · have q2 := q1.2 h2
      refine am_if (c := (qg1_kind c) = 0) (fun h3 => ?_) (fun h3 => ?_)
      · have q3 := q2.1 h3
        refine am_if (c := (fn5_sign x p1) = (38 : Int32)) (fun h4 => ?_) (fun h4 => ?_)
        · have q4 := q3.1 h4
          refine am_cy (pre := pr3_ampersand) (f := fm3_ampersand) (a' := [.inr (.inl 0), .inl p1]) (wc := (kw_S x)) (w' := (kw_SC x c)) (r := (some (.inl (fn3_ampersand x p1)), (kw_S x), 0, 0)) ?_ ?_ ?_ ?_ ?_ ?_ ?_ ?_ ?_ ?_
          · exact ks_SC_S_0_o x c
          · rfl
          · rfl
          · exact ks_SC_S_0_s x c
          · exact ⟨x, p1, rfl, rfl, q4⟩
          · exact fe3_ampersand x p1
          · exact kwl_S x
          · rfl
          · exact ks_SC_S_0_m x c x
          have e : fn3_inValue x c p1 = ((fn3_ampersand x p1), c) := by
            rw [fq3_inValue]
            rw [if_neg h1, if_neg h2, if_pos h3, if_pos h4]
          rw [e] <;> rfl
        · have e : fn3_inValue x c p1 = ((1 : Int32), c) := by
            rw [fq3_inValue]
            rw [if_neg h1, if_neg h2, if_pos h3, if_neg h4]
          rw [e] <;> rfl
      · have q3 := q2.2 h3
        refine am_if (c := (fn5_sign x p1) = (38 : Int32)) (fun h4 => ?_) (fun h4 => ?_)
        · have e : fn3_inValue x c p1 = ((0 : Int32), c) := by
            rw [fq3_inValue]
            rw [if_neg h1, if_neg h2, if_neg h3, if_pos h4]
          rw [e] <;> rfl
        · have q4 := q3.2 h4
          refine am_cx (pre := pr3_inCode) (f := fm3_inCode) (r := (some (.inl ((fn3_inCode x c p1).1)), (kw_SC x ((fn3_inCode x c p1).2)), 0, 0)) ?_ ?_ ?_ ?_
          · exact ⟨x, c, p1, rfl, rfl, q4⟩
          · exact fe3_inCode x c p1
          · exact rfl
          have e : fn3_inValue x c p1 = ((fn3_inCode x c p1).1, (fn3_inCode x c p1).2) := by
            rw [fq3_inValue]
            rw [if_neg h1, if_neg h2, if_neg h3, if_neg h4]
          rw [e] <;> rfl
abbrev pr3_inValue : List am_V → List am_C → Prop := fun a w => ∃ (x : qt5) (c : qt1) (p1 : Int32), a = [.inr (.inl 0), .inl p1, .inr (.inl 8)] ∧ w = (kw_SC x c) ∧ wp3_inValue x c p1
noncomputable def fm3_inValue : am_M := fun a w => (fun (z : Int32 × qt1) => (some (.inl (z.1)), (kw_SC (qs5 w 0) (z.2)), 0, 0)) (fn3_inValue (qs5 w 0) (qs1 w 8) (am_i (am_an a 1)))
theorem fe3_inValue (x : qt5) (c : qt1) (p1 : Int32) : fm3_inValue [.inr (.inl 0), .inl p1, .inr (.inl 8)] (kw_SC x c) = (some (.inl ((fn3_inValue x c p1).1)), (kw_SC x ((fn3_inValue x c p1).2)), 0, 0) := rfl
set_option maxRecDepth 100000 in
set_option maxHeartbeats 4000000 in
theorem rn3_inValue : ∀ (a : List am_V) (w : List am_C), pr3_inValue a w → ∃ nq, am_ev (am_mk kb3_inValue (fm3_inValue a w).2.2.1 (fm3_inValue a w).2.2.2 w.length) [31] nq (0, am_L0 a 4, [], w, 0, 0) = some ((fm3_inValue a w).1, (fm3_inValue a w).2.1) := by
  rintro a w ⟨x, c, p1, rfl, rfl, hp⟩
  rw [fe3_inValue x c p1]
  exact am_lf_ev (re3_inValue x c p1 hp)
theorem rl3_inValue : ∀ (a : List am_V) (w : List am_C), pr3_inValue a w → a.length ≤ 4 := by
  rintro a w ⟨x, c, p1, rfl, rfl, hp⟩
  exact Nat.le_of_ble_eq_true rfl
set_option maxRecDepth 100000 in
set_option maxHeartbeats 4000000 in
theorem km3_inValue {l : Launch} {E : (Nat → Prop) → State → Prop} {D : va_G} {ou : Nat → Nat} {ca : Nat → ClassId} (hE : hg_E E ou) : hg_Met l E D ou ca hy3_inValue prog_5_method_12_code 4 (some .int) 7 pr3_inValue fm3_inValue := by
  refine am_met (B := kb3_inValue) (cuts := [31]) (nt := 5) (by decide +kernel) rfl rfl (hg_tys_ok ca) ?_ (by decide) rl3_inValue ?_ rn3_inValue
  · exact fun t ht => List.mem_cons_of_mem _ (hg_arr t ht)
  · intro a w hp ad p e R s m args below meth c hR X hEs hnm
    have hR1 : 7 ≤ R.frames ∧ 280 ≤ R.locals := by rw [hR]; exact ⟨Nat.le_refl _, Nat.le_refl _⟩
    have hN := hE.2.1 _ _ hEs
    refine ⟨kd3_inValue_ok, fun index ci fi mode hq => kf3_ok X.2.2.2.2.1 hN.1 (index, ci, fi, mode) (am_as_mem hq), fun index ci fs hq => (am_no hq).elim, fun x v hq => (am_no hq).elim, ?_, fun o t n f hq => (am_no hq).elim, rfl, rfl, by rw [hR]; exact Nat.le_refl _, by rw [hR]; exact Nat.le_refl _⟩
    intro pc sel n0 pre0 f0 hq
    have hz : ∀ q ∈ ki3_inValue, am_CK p l e R s m args below meth c D hn_cl (va_A (am_w ad ou ca w) s.heap.size) ou ca 4 q.1 q.2.2.1 q.2.2.2.1 q.2.2.2.2 := by
      refine am_allc (am_ck_V (n := 1) X hEs hE.1 (km5_sign hE) (hg_good (gw_mem 352 (by decide +kernel))) rfl (List.mem_cons_of_mem _ (gw_mem 73 (by decide +kernel))) (List.mem_cons_of_mem _ (gw_mem 349 (by decide +kernel))) (List.mem_cons_of_mem _ (gw_mem 350 (by decide +kernel))) (List.mem_cons_of_mem _ (gw_mem 351 (by decide +kernel))) pa5_sign (by decide +kernel) ⟨Nat.le_trans (by decide) hR1.1, Nat.le_trans (by decide) hR1.2⟩ (kd3_inValue_ok (2, .invokevirtual 36, 3) (List.mem_of_getElem? (i := 2) rfl))) (am_allc (am_ck_V (n := 1) X hEs hE.1 (km1_enterTag hE) (hg_good (gw_mem 439 (by decide +kernel))) rfl (List.mem_cons_of_mem _ (gw_mem 74 (by decide +kernel))) (List.mem_cons_of_mem _ (gw_mem 436 (by decide +kernel))) (List.mem_cons_of_mem _ (gw_mem 437 (by decide +kernel))) (List.mem_cons_of_mem _ (gw_mem 438 (by decide +kernel))) pa1_enterTag (by decide +kernel) ⟨Nat.le_trans (by decide) hR1.1, Nat.le_trans (by decide) hR1.2⟩ (kd3_inValue_ok (36, .invokevirtual 76, 3) (List.mem_of_getElem? (i := 20) rfl))) (am_allc (am_ck_S (n := 3) X hEs hE.1 (km3_inUrl hE) (hg_good (gw_mem 480 (by decide +kernel))) rfl (List.mem_cons_of_mem _ (gw_mem 82 (by decide +kernel))) (List.mem_cons_of_mem _ (gw_mem 478 (by decide +kernel))) (List.mem_cons_of_mem _ (gw_mem 479 (by decide +kernel))) (by decide +kernel) ⟨Nat.le_trans (by decide) hR1.1, Nat.le_trans (by decide) hR1.2⟩ (kd3_inValue_ok (52, .invokestatic 137, 3) (List.mem_of_getElem? (i := 30) rfl))) (am_allc (am_ck_S (n := 2) X hEs hE.1 (km3_ampersand hE) (hg_good (gw_mem 355 (by decide +kernel))) rfl (List.mem_cons_of_mem _ (gw_mem 82 (by decide +kernel))) (List.mem_cons_of_mem _ (gw_mem 353 (by decide +kernel))) (List.mem_cons_of_mem _ (gw_mem 354 (by decide +kernel))) (by decide +kernel) ⟨Nat.le_trans (by decide) hR1.1, Nat.le_trans (by decide) hR1.2⟩ (kd3_inValue_ok (71, .invokestatic 42, 3) (List.mem_of_getElem? (i := 40) rfl))) (am_allc (am_ck_S (n := 3) X hEs hE.1 (km3_inCode hE) (hg_good (gw_mem 486 (by decide +kernel))) rfl (List.mem_cons_of_mem _ (gw_mem 82 (by decide +kernel))) (List.mem_cons_of_mem _ (gw_mem 484 (by decide +kernel))) (List.mem_cons_of_mem _ (gw_mem 485 (by decide +kernel))) (by decide +kernel) ⟨Nat.le_trans (by decide) hR1.1, Nat.le_trans (by decide) hR1.2⟩ (kd3_inValue_ok (92, .invokestatic 33, 3) (List.mem_of_getElem? (i := 52) rfl))) (am_all0)))))
    exact hz _ (am_as_mem hq)
noncomputable def ki3_inTitle : List (Nat × Option (List Nat) × Nat × (List am_V → List am_C → Prop) × am_M) := [(2, some [0, 1, 2, 3, 4, 5, 6, 7], 2, pr5_sign, fm5_sign), (12, some [0, 1, 2, 3, 4, 5, 6, 7], 2, pr3_ampersand, fm3_ampersand), (18, some [0, 1, 2, 3, 4, 5, 6, 7], 2, pr5_sign, fm5_sign), (36, some [0, 1, 2, 3, 4, 5, 6, 7], 4, pr5_spells, fm5_spells), (46, some [8], 2, pr1_enter, fm1_enter)]
def kc3_inTitle : List (Nat × am_V) := [(169, .inr (.inr (10 + 1)))]
noncomputable def kb3_inTitle : am_B := (kd3_inTitle, am_as kf3, hn_ty, fun _ => none, am_as kc3_inTitle, am_as ki3_inTitle, fun _ => none, 5, 3, (some .int))
noncomputable def fn3_inTitle (x : qt5) (c : qt1) (p1 : Int32) : Int32 × qt1 := Classical.choose (⟨_, rfl⟩ : ∃ z : Int32 × qt1, z = (if (fn5_sign x p1) = (38 : Int32) then ((fn3_ampersand x p1), c) else (if (fn5_sign x p1) = (60 : Int32) then (if (fn5_spells x p1 (p1 + (8 : Int32)) 10) = 0 then ((0 : Int32), c) else ((8 : Int32), (fn1_enter c (0 : Int32)))) else ((1 : Int32), c))))
theorem fq3_inTitle (x : qt5) (c : qt1) (p1 : Int32) : fn3_inTitle x c p1 = (if (fn5_sign x p1) = (38 : Int32) then ((fn3_ampersand x p1), c) else (if (fn5_sign x p1) = (60 : Int32) then (if (fn5_spells x p1 (p1 + (8 : Int32)) 10) = 0 then ((0 : Int32), c) else ((8 : Int32), (fn1_enter c (0 : Int32)))) else ((1 : Int32), c))) := Classical.choose_spec (⟨_, rfl⟩ : ∃ z : Int32 × qt1, z = (if (fn5_sign x p1) = (38 : Int32) then ((fn3_ampersand x p1), c) else (if (fn5_sign x p1) = (60 : Int32) then (if (fn5_spells x p1 (p1 + (8 : Int32)) 10) = 0 then ((0 : Int32), c) else ((8 : Int32), (fn1_enter c (0 : Int32)))) else ((1 : Int32), c))))
def wp3_inTitle (x : qt5) (c : qt1) (p1 : Int32) : Prop := ((wp5_sign x p1) ∧ (((fn5_sign x p1) = (38 : Int32) → (wp3_ampersand x p1)) ∧ (¬ (fn5_sign x p1) = (38 : Int32) → ((wp5_sign x p1) ∧ (((fn5_sign x p1) = (60 : Int32) → ((wp5_spells x p1 (p1 + (8 : Int32)) 10) ∧ (((fn5_spells x p1 (p1 + (8 : Int32)) 10) = 0 → True) ∧ (¬ (fn5_spells x p1 (p1 + (8 : Int32)) 10) = 0 → (wp1_enter c (0 : Int32)))))) ∧ (¬ (fn5_sign x p1) = (60 : Int32) → True))))))
set_option maxRecDepth 100000 in
set_option maxHeartbeats 4000000 in
theorem re3_inTitle (x : qt5) (c : qt1) (p1 : Int32) (hp : wp3_inTitle x c p1) : am_lf (am_mk kb3_inTitle 0 0 9) [] (0, am_L0 [.inr (.inl 0), .inl p1, .inr (.inl 8)] 3, [], (kw_SC x c), 0, 0) = some (some (.inl ((fn3_inTitle x c p1).1)), (kw_SC x ((fn3_inTitle x c p1).2))) := by
  unfold wp3_inTitle at hp
  refine am_lf_eq ?_
  generalize am_lf (am_mk kb3_inTitle 0 0 9) [] = kt
  refine am_cy (pre := pr5_sign) (f := fm5_sign) (a' := [.inr (.inl 0), .inl p1]) (wc := (kw_S x)) (w' := (kw_SC x c)) (r := (some (.inl (fn5_sign x p1)), (kw_S x), 0, 0)) ?_ ?_ ?_ ?_ ?_ ?_ ?_ ?_ ?_ ?_
  · exact ks_SC_S_0_o x c
  · rfl
  · rfl
  · exact ks_SC_S_0_s x c
  · exact ⟨x, p1, rfl, rfl, hp.1⟩
  · exact fe5_sign x p1
  · exact kwl_S x
  · rfl
  · exact ks_SC_S_0_m x c x
  refine am_if (c := (fn5_sign x p1) = (38 : Int32)) (fun h1 => ?_) (fun h1 => ?_)
  · have q1 := hp.2.1 h1
    refine am_cy (pre := pr3_ampersand) (f := fm3_ampersand) (a' := [.inr (.inl 0), .inl p1]) (wc := (kw_S x)) (w' := (kw_SC x c)) (r := (some (.inl (fn3_ampersand x p1)), (kw_S x), 0, 0)) ?_ ?_ ?_ ?_ ?_ ?_ ?_ ?_ ?_ ?_
    · exact ks_SC_S_0_o x c
    · rfl
    · rfl
    · exact ks_SC_S_0_s x c
    · exact ⟨x, p1, rfl, rfl, q1⟩
    · exact fe3_ampersand x p1
    · exact kwl_S x
    · rfl
    · exact ks_SC_S_0_m x c x
    have e : fn3_inTitle x c p1 = ((fn3_ampersand x p1), c) := by
      rw [fq3_inTitle]
      rw [if_pos h1]
    rw [e] <;> rfl
  · have q1 := hp.2.2 h1
    refine am_cy (pre := pr5_sign) (f := fm5_sign) (a' := [.inr (.inl 0), .inl p1]) (wc := (kw_S x)) (w' := (kw_SC x c)) (r := (some (.inl (fn5_sign x p1)), (kw_S x), 0, 0)) ?_ ?_ ?_ ?_ ?_ ?_ ?_ ?_ ?_ ?_
    · exact ks_SC_S_0_o x c
    · rfl
    · rfl
    · exact ks_SC_S_0_s x c
    · exact ⟨x, p1, rfl, rfl, q1.1⟩
    · exact fe5_sign x p1
    · exact kwl_S x
    · rfl
    · exact ks_SC_S_0_m x c x
    refine am_if (c := (fn5_sign x p1) = (60 : Int32)) (fun h2 => ?_) (fun h2 => ?_)
    · have q2 := q1.2.1 h2
      refine am_cy (pre := pr5_spells) (f := fm5_spells) (a' := [.inr (.inl 0), .inl p1, .inl (p1 + (8 : Int32)), .inr (.inr (10 + 1))]) (wc := (kw_S x)) (w' := (kw_SC x c)) (r := (some (.inl (fn5_spells x p1 (p1 + (8 : Int32)) 10)), (kw_S x), 0, 0)) ?_ ?_ ?_ ?_ ?_ ?_ ?_ ?_ ?_ ?_
      · exact ks_SC_S_0_o x c
      · rfl
      · rfl
      · exact ks_SC_S_0_s x c
      · exact ⟨x, p1, (p1 + (8 : Int32)), 10, rfl, rfl, q2.1⟩
      · exact fe5_spells x p1 (p1 + (8 : Int32)) 10
      · exact kwl_S x
      · rfl
      · exact ks_SC_S_0_m x c x
      refine am_if (c := (fn5_spells x p1 (p1 + (8 : Int32)) 10) = 0) (fun h3 => ?_) (fun h3 => ?_)
      · have e : fn3_inTitle x c p1 = ((0 : Int32), c) := by
          rw [fq3_inTitle]
          rw [if_neg h1, if_pos h2, if_pos h3]
        rw [e] <;> rfl
      · have q3 := q2.2.2 h3
        refine am_cy (pre := pr1_enter) (f := fm1_enter) (a' := [.inr (.inl 0), .inl (0 : Int32)]) (wc := (kw_C c)) (w' := (kw_SC x (fn1_enter c (0 : Int32)))) (r := (none, (kw_C (fn1_enter c (0 : Int32))), 0, 0)) ?_ ?_ ?_ ?_ ?_ ?_ ?_ ?_ ?_ ?_
        · exact ks_SC_C_1_o x c
        · rfl
        · rfl
        · exact ks_SC_C_1_s x c
        · exact ⟨c, (0 : Int32), rfl, rfl, q3⟩
        · exact fe1_enter c (0 : Int32)
        · exact kwl_C (fn1_enter c (0 : Int32))
        · rfl
        · exact ks_SC_C_1_m x c (fn1_enter c (0 : Int32))
        have e : fn3_inTitle x c p1 = ((8 : Int32), (fn1_enter c (0 : Int32))) := by
          rw [fq3_inTitle]
          rw [if_neg h1, if_pos h2, if_neg h3]
        rw [e] <;> rfl
    · have e : fn3_inTitle x c p1 = ((1 : Int32), c) := by
        rw [fq3_inTitle]
        rw [if_neg h1, if_neg h2]
      rw [e] <;> rfl
abbrev pr3_inTitle : List am_V → List am_C → Prop := fun a w => ∃ (x : qt5) (c : qt1) (p1 : Int32), a = [.inr (.inl 0), .inl p1, .inr (.inl 8)] ∧ w = (kw_SC x c) ∧ wp3_inTitle x c p1
noncomputable def fm3_inTitle : am_M := fun a w => (fun (z : Int32 × qt1) => (some (.inl (z.1)), (kw_SC (qs5 w 0) (z.2)), 0, 0)) (fn3_inTitle (qs5 w 0) (qs1 w 8) (am_i (am_an a 1)))
theorem fe3_inTitle (x : qt5) (c : qt1) (p1 : Int32) : fm3_inTitle [.inr (.inl 0), .inl p1, .inr (.inl 8)] (kw_SC x c) = (some (.inl ((fn3_inTitle x c p1).1)), (kw_SC x ((fn3_inTitle x c p1).2)), 0, 0) := rfl
set_option maxRecDepth 100000 in
set_option maxHeartbeats 4000000 in
theorem rn3_inTitle : ∀ (a : List am_V) (w : List am_C), pr3_inTitle a w → ∃ nq, am_ev (am_mk kb3_inTitle (fm3_inTitle a w).2.2.1 (fm3_inTitle a w).2.2.2 w.length) [] nq (0, am_L0 a 3, [], w, 0, 0) = some ((fm3_inTitle a w).1, (fm3_inTitle a w).2.1) := by
  rintro a w ⟨x, c, p1, rfl, rfl, hp⟩
  rw [fe3_inTitle x c p1]
  exact am_lf_ev (re3_inTitle x c p1 hp)
theorem rl3_inTitle : ∀ (a : List am_V) (w : List am_C), pr3_inTitle a w → a.length ≤ 3 := by
  rintro a w ⟨x, c, p1, rfl, rfl, hp⟩
  exact Nat.le_of_ble_eq_true rfl
set_option maxRecDepth 100000 in
set_option maxHeartbeats 4000000 in
theorem km3_inTitle {l : Launch} {E : (Nat → Prop) → State → Prop} {D : va_G} {ou : Nat → Nat} {ca : Nat → ClassId} (hE : hg_E E ou) : hg_Met l E D ou ca hy3_inTitle prog_5_method_19_code 3 (some .int) 5 pr3_inTitle fm3_inTitle := by
  refine am_met (B := kb3_inTitle) (cuts := []) (nt := 5) (by decide +kernel) rfl rfl (hg_tys_ok ca) ?_ (by decide) rl3_inTitle ?_ rn3_inTitle
  · exact fun t ht => List.mem_cons_of_mem _ (hg_arr t ht)
  · intro a w hp ad p e R s m args below meth c hR X hEs hnm
    have hR1 : 5 ≤ R.frames ∧ 200 ≤ R.locals := by rw [hR]; exact ⟨Nat.le_refl _, Nat.le_refl _⟩
    have hN := hE.2.1 _ _ hEs
    have hc : ∀ q ∈ kc3_inTitle, am_LK s hn_R3 args ou q.1 q.2 := am_allc (hg_lk hN.2 10 rfl) (am_all0)
    refine ⟨kd3_inTitle_ok, fun index ci fi mode hq => kf3_ok X.2.2.2.2.1 hN.1 (index, ci, fi, mode) (am_as_mem hq), fun index ci fs hq => (am_no hq).elim, fun x v hq => hc (x, v) (am_as_mem hq), ?_, fun o t n f hq => (am_no hq).elim, rfl, rfl, by rw [hR]; exact Nat.le_refl _, by rw [hR]; exact Nat.le_refl _⟩
    intro pc sel n0 pre0 f0 hq
    have hz : ∀ q ∈ ki3_inTitle, am_CK p l e R s m args below meth c D hn_cl (va_A (am_w ad ou ca w) s.heap.size) ou ca 3 q.1 q.2.2.1 q.2.2.2.1 q.2.2.2.2 := by
      refine am_allc (am_ck_V (n := 1) X hEs hE.1 (km5_sign hE) (hg_good (gw_mem 352 (by decide +kernel))) rfl (List.mem_cons_of_mem _ (gw_mem 73 (by decide +kernel))) (List.mem_cons_of_mem _ (gw_mem 349 (by decide +kernel))) (List.mem_cons_of_mem _ (gw_mem 350 (by decide +kernel))) (List.mem_cons_of_mem _ (gw_mem 351 (by decide +kernel))) pa5_sign (by decide +kernel) ⟨Nat.le_trans (by decide) hR1.1, Nat.le_trans (by decide) hR1.2⟩ (kd3_inTitle_ok (2, .invokevirtual 36, 3) (List.mem_of_getElem? (i := 2) rfl))) (am_allc (am_ck_S (n := 2) X hEs hE.1 (km3_ampersand hE) (hg_good (gw_mem 355 (by decide +kernel))) rfl (List.mem_cons_of_mem _ (gw_mem 82 (by decide +kernel))) (List.mem_cons_of_mem _ (gw_mem 353 (by decide +kernel))) (List.mem_cons_of_mem _ (gw_mem 354 (by decide +kernel))) (by decide +kernel) ⟨Nat.le_trans (by decide) hR1.1, Nat.le_trans (by decide) hR1.2⟩ (kd3_inTitle_ok (12, .invokestatic 42, 3) (List.mem_of_getElem? (i := 7) rfl))) (am_allc (am_ck_V (n := 1) X hEs hE.1 (km5_sign hE) (hg_good (gw_mem 352 (by decide +kernel))) rfl (List.mem_cons_of_mem _ (gw_mem 73 (by decide +kernel))) (List.mem_cons_of_mem _ (gw_mem 349 (by decide +kernel))) (List.mem_cons_of_mem _ (gw_mem 350 (by decide +kernel))) (List.mem_cons_of_mem _ (gw_mem 351 (by decide +kernel))) pa5_sign (by decide +kernel) ⟨Nat.le_trans (by decide) hR1.1, Nat.le_trans (by decide) hR1.2⟩ (kd3_inTitle_ok (18, .invokevirtual 36, 3) (List.mem_of_getElem? (i := 11) rfl))) (am_allc (am_ck_V (n := 3) X hEs hE.1 (km5_spells hE) (hg_good (gw_mem 363 (by decide +kernel))) rfl (List.mem_cons_of_mem _ (gw_mem 73 (by decide +kernel))) (List.mem_cons_of_mem _ (gw_mem 360 (by decide +kernel))) (List.mem_cons_of_mem _ (gw_mem 361 (by decide +kernel))) (List.mem_cons_of_mem _ (gw_mem 362 (by decide +kernel))) pa5_spells (by decide +kernel) ⟨Nat.le_trans (by decide) hR1.1, Nat.le_trans (by decide) hR1.2⟩ (kd3_inTitle_ok (36, .invokevirtual 48, 3) (List.mem_of_getElem? (i := 22) rfl))) (am_allc (am_ck_V (n := 1) X hEs hE.1 (km1_enter hE) (hg_good (gw_mem 334 (by decide +kernel))) rfl (List.mem_cons_of_mem _ (gw_mem 74 (by decide +kernel))) (List.mem_cons_of_mem _ (gw_mem 413 (by decide +kernel))) (List.mem_cons_of_mem _ (gw_mem 332 (by decide +kernel))) (List.mem_cons_of_mem _ (gw_mem 333 (by decide +kernel))) pa1_enter (by decide +kernel) ⟨Nat.le_trans (by decide) hR1.1, Nat.le_trans (by decide) hR1.2⟩ (kd3_inTitle_ok (46, .invokevirtual 52, 3) (List.mem_of_getElem? (i := 28) rfl))) (am_all0)))))
    exact hz _ (am_as_mem hq)
