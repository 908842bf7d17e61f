noncomputable def ki3_inTag : List (Nat × Option (List Nat) × Nat × (List am_V → List am_C → Prop) × am_M) := [(2, some [0, 1, 2, 3, 4, 5, 6, 7], 2, pr5_sign, fm5_sign), (7, some [], 1, pr4_isBlank, fm4_isBlank), (22, some [8], 1, pr1_enterElement, fm1_enterElement), (37, some [0, 1, 2, 3, 4, 5, 6, 7], 2, pr5_sign, fm5_sign), (54, some [8], 2, pr1_enter, fm1_enter), (60, some [], 1, pr4_isLetter, fm4_isLetter), (69, none, 3, pr3_attribute, fm3_attribute)]
noncomputable def kb3_inTag : am_B := (kd3_inTag, am_as kf3, hn_ty, fun _ => none, fun _ => none, am_as ki3_inTag, fun _ => none, 5, 4, (some .int))
noncomputable def fn3_inTag_c59 (x : qt5) (c : qt1) (v1 : Int32) (v3 : Int32) : Int32 × qt1 := (if (fn4_isLetter v3) = 0 then ((0 : Int32), c) else ((fn3_attribute x c v1).1, (fn3_attribute x c v1).2))
def wp3_inTag_c59 (x : qt5) (c : qt1) (v1 : Int32) (v3 : Int32) : Prop := ((wp4_isLetter v3) ∧ (((fn4_isLetter v3) = 0 → True) ∧ (¬ (fn4_isLetter v3) = 0 → (wp3_attribute x c v1))))
set_option maxRecDepth 100000 in
set_option maxHeartbeats 4000000 in
theorem rc3_inTag_59 (x : qt5) (c : qt1) (v1 : Int32) (v3 : Int32) (hp : wp3_inTag_c59 x c v1 v3) : am_lf (am_mk kb3_inTag 0 0 9) [59] (59, [some (.inr (.inl 0)), some (.inl v1), some (.inr (.inl 8)), some (.inl v3)], [], (kw_SC x c), 0, 0) = some (some (.inl ((fn3_inTag_c59 x c v1 v3).1)), (kw_SC x ((fn3_inTag_c59 x c v1 v3).2))) := by
  unfold wp3_inTag_c59 at hp
  refine am_lf_eq ?_
  generalize am_lf (am_mk kb3_inTag 0 0 9) [59] = kt
  refine am_cy (pre := pr4_isLetter) (f := fm4_isLetter) (a' := [.inl v3]) (wc := []) (w' := (kw_SC x c)) (r := (some (.inl (fn4_isLetter v3)), [], 0, 0)) ?_ ?_ ?_ ?_ ?_ ?_ ?_ ?_ ?_ ?_
  · exact am_sow0 _
  · rfl
  · rfl
  · exact am_sub0 _
  · exact ⟨v3, rfl, rfl, hp.1⟩
  · exact fe4_isLetter v3
  · exact rfl
  · rfl
  · exact am_mix0 _
  refine am_if (c := (fn4_isLetter v3) = 0) (fun h1 => ?_) (fun h1 => ?_)
  · have e : fn3_inTag_c59 x c v1 v3 = ((0 : Int32), c) := by
      rw [fn3_inTag_c59]
      rw [if_pos h1]
    rw [e] <;> rfl
  · have q1 := hp.2.2 h1
    refine am_cx (pre := pr3_attribute) (f := fm3_attribute) (r := (some (.inl ((fn3_attribute x c v1).1)), (kw_SC x ((fn3_attribute x c v1).2)), 0, 0)) ?_ ?_ ?_ ?_
    · exact ⟨x, c, v1, rfl, rfl, q1⟩
    · exact fe3_attribute x c v1
    · exact rfl
    have e : fn3_inTag_c59 x c v1 v3 = ((fn3_attribute x c v1).1, (fn3_attribute x c v1).2) := by
      rw [fn3_inTag_c59]
      rw [if_neg h1]
    rw [e] <;> rfl
noncomputable def fn3_inTag (x : qt5) (c : qt1) (p1 : Int32) : Int32 × qt1 := Classical.choose (⟨_, rfl⟩ : ∃ z : Int32 × qt1, z = (if (fn4_isBlank (fn5_sign x p1)) = 0 then (if (fn5_sign x p1) = (62 : Int32) then ((1 : Int32), (fn1_enterElement c)) else (if (fn5_sign x p1) = (47 : Int32) then (if (fn5_sign x (p1 + (1 : Int32))) = (62 : Int32) then (if (qg1_element c) = 0 then ((2 : Int32), (fn1_enter c (0 : Int32))) else (fn3_inTag_c59 x c p1 (fn5_sign x p1))) else (fn3_inTag_c59 x c p1 (fn5_sign x p1))) else (fn3_inTag_c59 x c p1 (fn5_sign x p1)))) else ((1 : Int32), c)))
theorem fq3_inTag (x : qt5) (c : qt1) (p1 : Int32) : fn3_inTag x c p1 = (if (fn4_isBlank (fn5_sign x p1)) = 0 then (if (fn5_sign x p1) = (62 : Int32) then ((1 : Int32), (fn1_enterElement c)) else (if (fn5_sign x p1) = (47 : Int32) then (if (fn5_sign x (p1 + (1 : Int32))) = (62 : Int32) then (if (qg1_element c) = 0 then ((2 : Int32), (fn1_enter c (0 : Int32))) else (fn3_inTag_c59 x c p1 (fn5_sign x p1))) else (fn3_inTag_c59 x c p1 (fn5_sign x p1))) else (fn3_inTag_c59 x c p1 (fn5_sign x p1)))) else ((1 : Int32), c)) := Classical.choose_spec (⟨_, rfl⟩ : ∃ z : Int32 × qt1, z = (if (fn4_isBlank (fn5_sign x p1)) = 0 then (if (fn5_sign x p1) = (62 : Int32) then ((1 : Int32), (fn1_enterElement c)) else (if (fn5_sign x p1) = (47 : Int32) then (if (fn5_sign x (p1 + (1 : Int32))) = (62 : Int32) then (if (qg1_element c) = 0 then ((2 : Int32), (fn1_enter c (0 : Int32))) else (fn3_inTag_c59 x c p1 (fn5_sign x p1))) else (fn3_inTag_c59 x c p1 (fn5_sign x p1))) else (fn3_inTag_c59 x c p1 (fn5_sign x p1)))) else ((1 : Int32), c)))
def wp3_inTag (x : qt5) (c : qt1) (p1 : Int32) : Prop := ((wp5_sign x p1) ∧ ((wp4_isBlank (fn5_sign x p1)) ∧ (((fn4_isBlank (fn5_sign x p1)) = 0 → (((fn5_sign x p1) = (62 : Int32) → (wp1_enterElement c)) ∧ (¬ (fn5_sign x p1) = (62 : Int32) → (((fn5_sign x p1) = (47 : Int32) → ((wp5_sign x (p1 + (1 : Int32))) ∧ (((fn5_sign x (p1 + (1 : Int32))) = (62 : Int32) → (((qg1_element c) = 0 → (wp1_enter c (0 : Int32))) ∧ (¬ (qg1_element c) = 0 → (wp3_inTag_c59 x c p1 (fn5_sign x p1))))) ∧ (¬ (fn5_sign x (p1 + (1 : Int32))) = (62 : Int32) → (wp3_inTag_c59 x c p1 (fn5_sign x p1)))))) ∧ (¬ (fn5_sign x p1) = (47 : Int32) → (wp3_inTag_c59 x c p1 (fn5_sign x p1))))))) ∧ (¬ (fn4_isBlank (fn5_sign x p1)) = 0 → True))))
set_option maxRecDepth 100000 in
set_option maxHeartbeats 4000000 in
theorem re3_inTag (x : qt5) (c : qt1) (p1 : Int32) (hp : wp3_inTag x c p1) : am_lf (am_mk kb3_inTag 0 0 9) [59] (0, am_L0 [.inr (.inl 0), .inl p1, .inr (.inl 8)] 4, [], (kw_SC x c), 0, 0) = some (some (.inl ((fn3_inTag x c p1).1)), (kw_SC x ((fn3_inTag x c p1).2))) := by
  unfold wp3_inTag at hp
  have i59 := @rc3_inTag_59
  refine am_lf_eq ?_
  generalize am_lf (am_mk kb3_inTag 0 0 9) [59] = kt at i59 ⊢
  refine am_cy (pre := pr5_sign) (f := fm5_sign) (a' := [.inr (.inl 0), .inl p1]) (wc := (kw_S x)) (w' := (kw_SC x c)) (r := (some (.inl (fn5_sign x p1)), (kw_S x), 0, 0)) ?_ ?_ ?_ ?_ ?_ ?_ ?_ ?_ ?_ ?_
  · exact ks_SC_S_0_o x c
  · rfl
  · rfl
  · exact ks_SC_S_0_s x c
  · exact ⟨x, p1, rfl, rfl, hp.1⟩
  · exact fe5_sign x p1
  · exact kwl_S x
  · rfl
  · exact ks_SC_S_0_m x c x
  refine am_cy (pre := pr4_isBlank) (f := fm4_isBlank) (a' := [.inl (fn5_sign x p1)]) (wc := []) (w' := (kw_SC x c)) (r := (some (.inl (fn4_isBlank (fn5_sign x p1))), [], 0, 0)) ?_ ?_ ?_ ?_ ?_ ?_ ?_ ?_ ?_ ?_
  · exact am_sow0 _
  · rfl
  · rfl
  · exact am_sub0 _
  · exact ⟨(fn5_sign x p1), rfl, rfl, hp.2.1⟩
  · exact fe4_isBlank (fn5_sign x p1)
  · exact rfl
  · rfl
  · exact am_mix0 _
  refine am_if (c := (fn4_isBlank (fn5_sign x p1)) = 0) (fun h1 => ?_) (fun h1 => ?_)
  · have q1 := hp.2.2.1 h1
    refine am_if (c := (fn5_sign x p1) = (62 : Int32)) (fun h2 => ?_) (fun h2 => ?_)
    · have q2 := q1.1 h2
      refine am_cy (pre := pr1_enterElement) (f := fm1_enterElement) (a' := [.inr (.inl 0)]) (wc := (kw_C c)) (w' := (kw_SC x (fn1_enterElement c))) (r := (none, (kw_C (fn1_enterElement c)), 0, 0)) ?_ ?_ ?_ ?_ ?_ ?_ ?_ ?_ ?_ ?_
      · exact ks_SC_C_1_o x c
      · rfl
      · rfl
      · exact ks_SC_C_1_s x c
      · exact ⟨c, rfl, rfl, q2⟩
      · exact fe1_enterElement c
      · exact kwl_C (fn1_enterElement c)
      · rfl
      · exact ks_SC_C_1_m x c (fn1_enterElement c)
      have e : fn3_inTag x c p1 = ((1 : Int32), (fn1_enterElement c)) := by
        rw [fq3_inTag]
        rw [if_pos h1, if_pos h2]
      rw [e] <;> rfl
    · have q2 := q1.2 h2
      refine am_if (c := (fn5_sign x p1) = (47 : Int32)) (fun h3 => ?_) (fun h3 => ?_)
      · have q3 := q2.1 h3
        refine am_cy (pre := pr5_sign) (f := fm5_sign) (a' := [.inr (.inl 0), .inl (p1 + (1 : Int32))]) (wc := (kw_S x)) (w' := (kw_SC x c)) (r := (some (.inl (fn5_sign x (p1 + (1 : Int32)))), (kw_S x), 0, 0)) ?_ ?_ ?_ ?_ ?_ ?_ ?_ ?_ ?_ ?_
        · exact ks_SC_S_0_o x c
        · rfl
        · rfl
        · exact ks_SC_S_0_s x c
        · exact ⟨x, (p1 + (1 : Int32)), rfl, rfl, q3.1⟩
        · exact fe5_sign x (p1 + (1 : Int32))
        · exact kwl_S x
        · rfl
        · exact ks_SC_S_0_m x c x
        refine am_if (c := (fn5_sign x (p1 + (1 : Int32))) = (62 : Int32)) (fun h4 => ?_) (fun h4 => ?_)
        · have q4 := q3.2.1 h4
          refine am_if (c := (qg1_element c) = 0) (fun h5 => ?_) (fun h5 => ?_)
          · have q5 := q4.1 h5
            refine am_cy (pre := pr1_enter) (f := fm1_enter) (a' := [.inr (.inl 0), .inl (0 : Int32)]) (wc := (kw_C c)) (w' := (kw_SC x (fn1_enter c (0 : Int32)))) (r := (none, (kw_C (fn1_enter c (0 : Int32))), 0, 0)) ?_ ?_ ?_ ?_ ?_ ?_ ?_ ?_ ?_ ?_
            · exact ks_SC_C_1_o x c
            · rfl
            · rfl
            · exact ks_SC_C_1_s x c
            · exact ⟨c, (0 : Int32), rfl, rfl, q5⟩
            · exact fe1_enter c (0 : Int32)
            · exact kwl_C (fn1_enter c (0 : Int32))
            · rfl
            · exact ks_SC_C_1_m x c (fn1_enter c (0 : Int32))
            have e : fn3_inTag x c p1 = ((2 : Int32), (fn1_enter c (0 : Int32))) := by
              rw [fq3_inTag]
              rw [if_pos h1, if_neg h2, if_pos h3, if_pos h4, if_pos h5]
            rw [e] <;> rfl
          · have q5 := q4.2 h5
            have e : fn3_inTag x c p1 = fn3_inTag_c59 x c p1 (fn5_sign x p1) := by
              rw [fq3_inTag]
              rw [if_pos h1, if_neg h2, if_pos h3, if_pos h4, if_neg h5]
            rw [e]
            exact i59 x c p1 (fn5_sign x p1)  q5
        · have q4 := q3.2.2 h4
          have e : fn3_inTag x c p1 = fn3_inTag_c59 x c p1 (fn5_sign x p1) := by
            rw [fq3_inTag]
            rw [if_pos h1, if_neg h2, if_pos h3, if_neg h4]
          rw [e]
          exact i59 x c p1 (fn5_sign x p1)  q4
      · have q3 := q2.2 h3
        have e : fn3_inTag x c p1 = fn3_inTag_c59 x c p1 (fn5_sign x p1) := by
          rw [fq3_inTag]
          rw [if_pos h1, if_neg h2, if_neg h3]
        rw [e]
        exact i59 x c p1 (fn5_sign x p1)  q3
  · have e : fn3_inTag x c p1 = ((1 : Int32), c) := by
      rw [fq3_inTag]
      rw [if_neg h1]
    rw [e] <;> rfl
abbrev pr3_inTag : List am_V → List am_C → Prop := fun a w => ∃ (x : qt5) (c : qt1) (p1 : Int32), a = [.inr (.inl 0), .inl p1, .inr (.inl 8)] ∧ w = (kw_SC x c) ∧ wp3_inTag x c p1
noncomputable def fm3_inTag : am_M := fun a w => (fun (z : Int32 × qt1) => (some (.inl (z.1)), (kw_SC (qs5 w 0) (z.2)), 0, 0)) (fn3_inTag (qs5 w 0) (qs1 w 8) (am_i (am_an a 1)))
theorem fe3_inTag (x : qt5) (c : qt1) (p1 : Int32) : fm3_inTag [.inr (.inl 0), .inl p1, .inr (.inl 8)] (kw_SC x c) = (some (.inl ((fn3_inTag x c p1).1)), (kw_SC x ((fn3_inTag x c p1).2)), 0, 0) := rfl
set_option maxRecDepth 100000 in
set_option maxHeartbeats 4000000 in
theorem rn3_inTag : ∀ (a : List am_V) (w : List am_C), pr3_inTag a w → ∃ nq, am_ev (am_mk kb3_inTag (fm3_inTag a w).2.2.1 (fm3_inTag a w).2.2.2 w.length) [59] nq (0, am_L0 a 4, [], w, 0, 0) = some ((fm3_inTag a w).1, (fm3_inTag a w).2.1) := by
  rintro a w ⟨x, c, p1, rfl, rfl, hp⟩
  rw [fe3_inTag x c p1]
  exact am_lf_ev (re3_inTag x c p1 hp)
theorem rl3_inTag : ∀ (a : List am_V) (w : List am_C), pr3_inTag a w → a.length ≤ 4 := by
  rintro a w ⟨x, c, p1, rfl, rfl, hp⟩
  exact Nat.le_of_ble_eq_true rfl
set_option maxRecDepth 100000 in
set_option maxHeartbeats 4000000 in
theorem km3_inTag {l : Launch} {E : (Nat → Prop) → State → Prop} {D : va_G} {ou : Nat → Nat} {ca : Nat → ClassId} (hE : hg_E E ou) : hg_Met l E D ou ca hy3_inTag prog_5_method_9_code 4 (some .int) 7 pr3_inTag fm3_inTag := by
  refine am_met (B := kb3_inTag) (cuts := [59]) (nt := 5) (by decide +kernel) rfl rfl (hg_tys_ok ca) ?_ (by decide) rl3_inTag ?_ rn3_inTag
  · exact fun t ht => List.mem_cons_of_mem _ (hg_arr t ht)
  · intro a w hp ad p e R s m args below meth c hR X hEs hnm
    have hR1 : 7 ≤ R.frames ∧ 280 ≤ R.locals := by rw [hR]; exact ⟨Nat.le_refl _, Nat.le_refl _⟩
    have hN := hE.2.1 _ _ hEs
    refine ⟨kd3_inTag_ok, fun index ci fi mode hq => kf3_ok X.2.2.2.2.1 hN.1 (index, ci, fi, mode) (am_as_mem hq), fun index ci fs hq => (am_no hq).elim, fun x v hq => (am_no hq).elim, ?_, fun o t n f hq => (am_no hq).elim, rfl, rfl, by rw [hR]; exact Nat.le_refl _, by rw [hR]; exact Nat.le_refl _⟩
    intro pc sel n0 pre0 f0 hq
    have hz : ∀ q ∈ ki3_inTag, am_CK p l e R s m args below meth c D hn_cl (va_A (am_w ad ou ca w) s.heap.size) ou ca 4 q.1 q.2.2.1 q.2.2.2.1 q.2.2.2.2 := by
      refine am_allc (am_ck_V (n := 1) X hEs hE.1 (km5_sign hE) (hg_good (gw_mem 352 (by decide +kernel))) rfl (List.mem_cons_of_mem _ (gw_mem 73 (by decide +kernel))) (List.mem_cons_of_mem _ (gw_mem 349 (by decide +kernel))) (List.mem_cons_of_mem _ (gw_mem 350 (by decide +kernel))) (List.mem_cons_of_mem _ (gw_mem 351 (by decide +kernel))) pa5_sign (by decide +kernel) ⟨Nat.le_trans (by decide) hR1.1, Nat.le_trans (by decide) hR1.2⟩ (kd3_inTag_ok (2, .invokevirtual 36, 3) (List.mem_of_getElem? (i := 2) rfl))) (am_allc (am_ck_S (n := 1) X hEs hE.1 (km4_isBlank hE) (hg_good (gw_mem 429 (by decide +kernel))) rfl (List.mem_cons_of_mem _ (gw_mem 77 (by decide +kernel))) (List.mem_cons_of_mem _ (gw_mem 427 (by decide +kernel))) (List.mem_cons_of_mem _ (gw_mem 428 (by decide +kernel))) (by decide +kernel) ⟨Nat.le_trans (by decide) hR1.1, Nat.le_trans (by decide) hR1.2⟩ (kd3_inTag_ok (7, .invokestatic 66, 3) (List.mem_of_getElem? (i := 5) rfl))) (am_allc (am_ck_V (n := 0) X hEs hE.1 (km1_enterElement hE) (hg_good (gw_mem 447 (by decide +kernel))) rfl (List.mem_cons_of_mem _ (gw_mem 74 (by decide +kernel))) (List.mem_cons_of_mem _ (gw_mem 444 (by decide +kernel))) (List.mem_cons_of_mem _ (gw_mem 445 (by decide +kernel))) (List.mem_cons_of_mem _ (gw_mem 446 (by decide +kernel))) pa1_enterElement (by decide +kernel) ⟨Nat.le_trans (by decide) hR1.1, Nat.le_trans (by decide) hR1.2⟩ (kd3_inTag_ok (22, .invokevirtual 91, 3) (List.mem_of_getElem? (i := 13) rfl))) (am_allc (am_ck_V (n := 1) X hEs hE.1 (km5_sign hE) (hg_good (gw_mem 352 (by decide +kernel))) rfl (List.mem_cons_of_mem _ (gw_mem 73 (by decide +kernel))) (List.mem_cons_of_mem _ (gw_mem 349 (by decide +kernel))) (List.mem_cons_of_mem _ (gw_mem 350 (by decide +kernel))) (List.mem_cons_of_mem _ (gw_mem 351 (by decide +kernel))) pa5_sign (by decide +kernel) ⟨Nat.le_trans (by decide) hR1.1, Nat.le_trans (by decide) hR1.2⟩ (kd3_inTag_ok (37, .invokevirtual 36, 3) (List.mem_of_getElem? (i := 23) rfl))) (am_allc (am_ck_V (n := 1) X hEs hE.1 (km1_enter hE) (hg_good (gw_mem 334 (by decide +kernel))) rfl (List.mem_cons_of_mem _ (gw_mem 74 (by decide +kernel))) (List.mem_cons_of_mem _ (gw_mem 413 (by decide +kernel))) (List.mem_cons_of_mem _ (gw_mem 332 (by decide +kernel))) (List.mem_cons_of_mem _ (gw_mem 333 (by decide +kernel))) pa1_enter (by decide +kernel) ⟨Nat.le_trans (by decide) hR1.1, Nat.le_trans (by decide) hR1.2⟩ (kd3_inTag_ok (54, .invokevirtual 52, 3) (List.mem_of_getElem? (i := 31) rfl))) (am_allc (am_ck_S (n := 1) X hEs hE.1 (km4_isLetter hE) (hg_good (gw_mem 423 (by decide +kernel))) rfl (List.mem_cons_of_mem _ (gw_mem 77 (by decide +kernel))) (List.mem_cons_of_mem _ (gw_mem 448 (by decide +kernel))) (List.mem_cons_of_mem _ (gw_mem 422 (by decide +kernel))) (by decide +kernel) ⟨Nat.le_trans (by decide) hR1.1, Nat.le_trans (by decide) hR1.2⟩ (kd3_inTag_ok (60, .invokestatic 97, 3) (List.mem_of_getElem? (i := 35) rfl))) (am_allc (am_ck_S (n := 3) X hEs hE.1 (km3_attribute hE) (hg_good (gw_mem 451 (by decide +kernel))) rfl (List.mem_cons_of_mem _ (gw_mem 82 (by decide +kernel))) (List.mem_cons_of_mem _ (gw_mem 449 (by decide +kernel))) (List.mem_cons_of_mem _ (gw_mem 450 (by decide +kernel))) (by decide +kernel) ⟨Nat.le_trans (by decide) hR1.1, Nat.le_trans (by decide) hR1.2⟩ (kd3_inTag_ok (69, .invokestatic 100, 3) (List.mem_of_getElem? (i := 40) rfl))) (am_all0)))))))
    exact hz _ (am_as_mem hq)
noncomputable def ki3_ifTwoFollow : List (Nat × Option (List Nat) × Nat × (List am_V → List am_C → Prop) × am_M) := [(4, none, 2, pr5_sign, fm5_sign), (14, none, 2, pr5_sign, fm5_sign)]
noncomputable def kb3_ifTwoFollow : am_B := (kd3_ifTwoFollow, am_as kf3, hn_ty, fun _ => none, fun _ => none, am_as ki3_ifTwoFollow, fun _ => none, 5, 2, (some .int))
noncomputable def fn3_ifTwoFollow (x : qt5) (p1 : Int32) : Int32 := Classical.choose (⟨_, rfl⟩ : ∃ z : Int32, z = (if (fn5_sign x (p1 + (1 : Int32))) = 0 then (0 : Int32) else (if (fn5_sign x (p1 + (2 : Int32))) = 0 then (0 : Int32) else (1 : Int32))))
theorem fq3_ifTwoFollow (x : qt5) (p1 : Int32) : fn3_ifTwoFollow x p1 = (if (fn5_sign x (p1 + (1 : Int32))) = 0 then (0 : Int32) else (if (fn5_sign x (p1 + (2 : Int32))) = 0 then (0 : Int32) else (1 : Int32))) := Classical.choose_spec (⟨_, rfl⟩ : ∃ z : Int32, z = (if (fn5_sign x (p1 + (1 : Int32))) = 0 then (0 : Int32) else (if (fn5_sign x (p1 + (2 : Int32))) = 0 then (0 : Int32) else (1 : Int32))))
def wp3_ifTwoFollow (x : qt5) (p1 : Int32) : Prop := ((wp5_sign x (p1 + (1 : Int32))) ∧ (((fn5_sign x (p1 + (1 : Int32))) = 0 → True) ∧ (¬ (fn5_sign x (p1 + (1 : Int32))) = 0 → (wp5_sign x (p1 + (2 : Int32))))))
set_option maxRecDepth 100000 in
set_option maxHeartbeats 4000000 in
theorem re3_ifTwoFollow (x : qt5) (p1 : Int32) (hp : wp3_ifTwoFollow x p1) : am_lf (am_mk kb3_ifTwoFollow 0 0 8) [] (0, am_L0 [.inr (.inl 0), .inl p1] 2, [], (kw_S x), 0, 0) = some (some (.inl (fn3_ifTwoFollow x p1)), (kw_S x)) := by
  unfold wp3_ifTwoFollow at hp
  refine am_lf_eq ?_
  generalize am_lf (am_mk kb3_ifTwoFollow 0 0 8) [] = kt
  refine am_cx (pre := pr5_sign) (f := fm5_sign) (r := (some (.inl (fn5_sign x (p1 + (1 : Int32)))), (kw_S x), 0, 0)) ?_ ?_ ?_ ?_
  · exact ⟨x, (p1 + (1 : Int32)), rfl, rfl, hp.1⟩
  · exact fe5_sign x (p1 + (1 : Int32))
  · exact rfl
  refine am_if (c := (fn5_sign x (p1 + (1 : Int32))) = 0) (fun h1 => ?_) (fun h1 => ?_)
  · have e : fn3_ifTwoFollow x p1 = (0 : Int32) := by
      rw [fq3_ifTwoFollow]
      rw [if_pos h1]
    rw [e] <;> rfl
  · have q1 := hp.2.2 h1
    refine am_cx (pre := pr5_sign) (f := fm5_sign) (r := (some (.inl (fn5_sign x (p1 + (2 : Int32)))), (kw_S x), 0, 0)) ?_ ?_ ?_ ?_
    · exact ⟨x, (p1 + (2 : Int32)), rfl, rfl, q1⟩
    · exact fe5_sign x (p1 + (2 : Int32))
    · exact rfl
    refine am_if (c := (fn5_sign x (p1 + (2 : Int32))) = 0) (fun h2 => ?_) (fun h2 => ?_)
    · have e : fn3_ifTwoFollow x p1 = (0 : Int32) := by
        rw [fq3_ifTwoFollow]
        rw [if_neg h1, if_pos h2]
      rw [e] <;> rfl
    · have e : fn3_ifTwoFollow x p1 = (1 : Int32) := by
        rw [fq3_ifTwoFollow]
        rw [if_neg h1, if_neg h2]
      rw [e] <;> rfl
abbrev pr3_ifTwoFollow : List am_V → List am_C → Prop := fun a w => ∃ (x : qt5) (p1 : Int32), a = [.inr (.inl 0), .inl p1] ∧ w = (kw_S x) ∧ wp3_ifTwoFollow x p1
noncomputable def fm3_ifTwoFollow : am_M := fun a w => (fun (z : Int32) => (some (.inl z), (kw_S (qs5 w 0)), 0, 0)) (fn3_ifTwoFollow (qs5 w 0) (am_i (am_an a 1)))
theorem fe3_ifTwoFollow (x : qt5) (p1 : Int32) : fm3_ifTwoFollow [.inr (.inl 0), .inl p1] (kw_S x) = (some (.inl (fn3_ifTwoFollow x p1)), (kw_S x), 0, 0) := rfl
set_option maxRecDepth 100000 in
set_option maxHeartbeats 4000000 in
theorem rn3_ifTwoFollow : ∀ (a : List am_V) (w : List am_C), pr3_ifTwoFollow a w → ∃ nq, am_ev (am_mk kb3_ifTwoFollow (fm3_ifTwoFollow a w).2.2.1 (fm3_ifTwoFollow a w).2.2.2 w.length) [] nq (0, am_L0 a 2, [], w, 0, 0) = some ((fm3_ifTwoFollow a w).1, (fm3_ifTwoFollow a w).2.1) := by
  rintro a w ⟨x, p1, rfl, rfl, hp⟩
  rw [fe3_ifTwoFollow x p1]
  exact am_lf_ev (re3_ifTwoFollow x p1 hp)
theorem rl3_ifTwoFollow : ∀ (a : List am_V) (w : List am_C), pr3_ifTwoFollow a w → a.length ≤ 2 := by
  rintro a w ⟨x, p1, rfl, rfl, hp⟩
  exact Nat.le_of_ble_eq_true rfl
set_option maxRecDepth 100000 in
set_option maxHeartbeats 4000000 in
theorem km3_ifTwoFollow {l : Launch} {E : (Nat → Prop) → State → Prop} {D : va_G} {ou : Nat → Nat} {ca : Nat → ClassId} (hE : hg_E E ou) : hg_Met l E D ou ca hy3_ifTwoFollow prog_5_method_8_code 2 (some .int) 1 pr3_ifTwoFollow fm3_ifTwoFollow := by
  refine am_met (B := kb3_ifTwoFollow) (cuts := []) (nt := 5) (by decide +kernel) rfl rfl (hg_tys_ok ca) ?_ (by decide) rl3_ifTwoFollow ?_ rn3_ifTwoFollow
  · exact fun t ht => List.mem_cons_of_mem _ (hg_arr t ht)
  · intro a w hp ad p e R s m args below meth c hR X hEs hnm
    have hR1 : 1 ≤ R.frames ∧ 40 ≤ R.locals := by rw [hR]; exact ⟨Nat.le_refl _, Nat.le_refl _⟩
    have hN := hE.2.1 _ _ hEs
    refine ⟨kd3_ifTwoFollow_ok, fun index ci fi mode hq => kf3_ok X.2.2.2.2.1 hN.1 (index, ci, fi, mode) (am_as_mem hq), fun index ci fs hq => (am_no hq).elim, fun x v hq => (am_no hq).elim, ?_, fun o t n f hq => (am_no hq).elim, rfl, rfl, by rw [hR]; exact Nat.le_refl _, by rw [hR]; exact Nat.le_refl _⟩
    intro pc sel n0 pre0 f0 hq
    have hz : ∀ q ∈ ki3_ifTwoFollow, am_CK p l e R s m args below meth c D hn_cl (va_A (am_w ad ou ca w) s.heap.size) ou ca 2 q.1 q.2.2.1 q.2.2.2.1 q.2.2.2.2 := by
      refine am_allc (am_ck_V (n := 1) X hEs hE.1 (km5_sign hE) (hg_good (gw_mem 352 (by decide +kernel))) rfl (List.mem_cons_of_mem _ (gw_mem 73 (by decide +kernel))) (List.mem_cons_of_mem _ (gw_mem 349 (by decide +kernel))) (List.mem_cons_of_mem _ (gw_mem 350 (by decide +kernel))) (List.mem_cons_of_mem _ (gw_mem 351 (by decide +kernel))) pa5_sign (by decide +kernel) ⟨Nat.le_trans (by decide) hR1.1, Nat.le_trans (by decide) hR1.2⟩ (kd3_ifTwoFollow_ok (4, .invokevirtual 36, 3) (List.mem_of_getElem? (i := 4) rfl))) (am_allc (am_ck_V (n := 1) X hEs hE.1 (km5_sign hE) (hg_good (gw_mem 352 (by decide +kernel))) rfl (List.mem_cons_of_mem _ (gw_mem 73 (by decide +kernel))) (List.mem_cons_of_mem _ (gw_mem 349 (by decide +kernel))) (List.mem_cons_of_mem _ (gw_mem 350 (by decide +kernel))) (List.mem_cons_of_mem _ (gw_mem 351 (by decide +kernel))) pa5_sign (by decide +kernel) ⟨Nat.le_trans (by decide) hR1.1, Nat.le_trans (by decide) hR1.2⟩ (kd3_ifTwoFollow_ok (14, .invokevirtual 36, 3) (List.mem_of_getElem? (i := 10) rfl))) (am_all0))
    exact hz _ (am_as_mem hq)
noncomputable def ki3_inUrl : List (Nat × Option (List Nat) × Nat × (List am_V → List am_C → Prop) × am_M) := [(2, some [0, 1, 2, 3, 4, 5, 6, 7], 2, pr5_sign, fm5_sign), (14, some [0, 1, 2, 3, 4, 5, 6, 7], 2, pr3_ampersand, fm3_ampersand), (28, some [0, 1, 2, 3, 4, 5, 6, 7], 2, pr3_ifTwoFollow, fm3_ifTwoFollow)]
noncomputable def kb3_inUrl : am_B := (kd3_inUrl, am_as kf3, hn_ty, fun _ => none, fun _ => none, am_as ki3_inUrl, fun _ => none, 5, 4, (some .int))
noncomputable def fn3_inUrl_c48 (x : qt5) (c : qt1) : Int32 × qt1 := ((1 : Int32), (qu1_part c (2 : Int32)))
def wp3_inUrl_c48 (x : qt5) (c : qt1) : Prop := True
set_option maxRecDepth 100000 in
set_option maxHeartbeats 4000000 in
theorem rc3_inUrl_48 (x : qt5) (c : qt1) (j1 : Option am_V) (j3 : Option am_V) (g1 : am_loO 9 j1 = true) (g3 : am_loO 9 j3 = true) (hp : wp3_inUrl_c48 x c) : am_lf (am_mk kb3_inUrl 0 0 9) [20, 36, 48] (48, [some (.inr (.inl 0)), j1, some (.inr (.inl 8)), j3], [], (kw_SC x c), 0, 0) = some (some (.inl ((fn3_inUrl_c48 x c).1)), (kw_SC x ((fn3_inUrl_c48 x c).2))) := by
  unfold wp3_inUrl_c48 at hp
  refine am_lf_eq ?_
  generalize am_lf (am_mk kb3_inUrl 0 0 9) [20, 36, 48] = kt
  refine am_sp (w' := (kw_SC x (qu1_part c (2 : Int32)))) (kp_SC_1_part x c (2 : Int32)) ?_
  have e : fn3_inUrl_c48 x c = ((1 : Int32), (qu1_part c (2 : Int32))) := by
    rw [fn3_inUrl_c48]
  rw [e] <;> rfl
noncomputable def fn3_inUrl_c36 (x : qt5) (c : qt1) (v3 : Int32) : Int32 × qt1 := (if v3 = (63 : Int32) then (fn3_inUrl_c48 x c) else (if v3 = (35 : Int32) then (fn3_inUrl_c48 x c) else (if (qg1_part c) = 0 then ((1 : Int32), (qu1_part c (1 : Int32))) else ((1 : Int32), c))))
def wp3_inUrl_c36 (x : qt5) (c : qt1) (v3 : Int32) : Prop := ((v3 = (63 : Int32) → (wp3_inUrl_c48 x c)) ∧ (¬ v3 = (63 : Int32) → ((v3 = (35 : Int32) → (wp3_inUrl_c48 x c)) ∧ (¬ v3 = (35 : Int32) → True))))
set_option maxRecDepth 100000 in
set_option maxHeartbeats 4000000 in
theorem rc3_inUrl_36 (x : qt5) (c : qt1) (v3 : Int32) (j1 : Option am_V) (g1 : am_loO 9 j1 = true) (hp : wp3_inUrl_c36 x c v3) : am_lf (am_mk kb3_inUrl 0 0 9) [20, 36, 48] (36, [some (.inr (.inl 0)), j1, some (.inr (.inl 8)), some (.inl v3)], [], (kw_SC x c), 0, 0) = some (some (.inl ((fn3_inUrl_c36 x c v3).1)), (kw_SC x ((fn3_inUrl_c36 x c v3).2))) := by
  unfold wp3_inUrl_c36 at hp
  have i48 := @rc3_inUrl_48
  refine am_lf_eq ?_
  generalize am_lf (am_mk kb3_inUrl 0 0 9) [20, 36, 48] = kt at i48 ⊢
  refine am_if (c := v3 = (63 : Int32)) (fun h1 => ?_) (fun h1 => ?_)
  · have q1 := hp.1 h1
    have e : fn3_inUrl_c36 x c v3 = fn3_inUrl_c48 x c := by
      rw [fn3_inUrl_c36]
      rw [if_pos h1]
    rw [e]
    exact i48 x c _ _ g1 rfl q1
  · have q1 := hp.2 h1
    refine am_if (c := v3 = (35 : Int32)) (fun h2 => ?_) (fun h2 => ?_)
    · have q2 := q1.1 h2
      have e : fn3_inUrl_c36 x c v3 = fn3_inUrl_c48 x c := by
        rw [fn3_inUrl_c36]
        rw [if_neg h1, if_pos h2]
      rw [e]
      exact i48 x c _ _ g1 rfl q2
    · refine am_if (c := (qg1_part c) = 0) (fun h3 => ?_) (fun h3 => ?_)
      · refine am_sp (w' := (kw_SC x (qu1_part c (1 : Int32)))) (kp_SC_1_part x c (1 : Int32)) ?_
        have e : fn3_inUrl_c36 x c v3 = ((1 : Int32), (qu1_part c (1 : Int32))) := by
          rw [fn3_inUrl_c36]
          rw [if_neg h1, if_neg h2, if_pos h3]
        rw [e] <;> rfl
      · have e : fn3_inUrl_c36 x c v3 = ((1 : Int32), c) := by
          rw [fn3_inUrl_c36]
          rw [if_neg h1, if_neg h2, if_neg h3]
        rw [e] <;> rfl
noncomputable def fn3_inUrl_c20 (x : qt5) (c : qt1) (v1 : Int32) (v3 : Int32) : Int32 × qt1 := (if v3 = (37 : Int32) then (if (fn3_ifTwoFollow x v1) = 0 then ((0 : Int32), c) else (fn3_inUrl_c36 x c v3)) else (fn3_inUrl_c36 x c v3))
def wp3_inUrl_c20 (x : qt5) (c : qt1) (v1 : Int32) (v3 : Int32) : Prop := ((v3 = (37 : Int32) → ((wp3_ifTwoFollow x v1) ∧ (((fn3_ifTwoFollow x v1) = 0 → True) ∧ (¬ (fn3_ifTwoFollow x v1) = 0 → (wp3_inUrl_c36 x c v3))))) ∧ (¬ v3 = (37 : Int32) → (wp3_inUrl_c36 x c v3)))
set_option maxRecDepth 100000 in
set_option maxHeartbeats 4000000 in
theorem rc3_inUrl_20 (x : qt5) (c : qt1) (v1 : Int32) (v3 : Int32) (hp : wp3_inUrl_c20 x c v1 v3) : am_lf (am_mk kb3_inUrl 0 0 9) [20, 36, 48] (20, [some (.inr (.inl 0)), some (.inl v1), some (.inr (.inl 8)), some (.inl v3)], [], (kw_SC x c), 0, 0) = some (some (.inl ((fn3_inUrl_c20 x c v1 v3).1)), (kw_SC x ((fn3_inUrl_c20 x c v1 v3).2))) := by
  unfold wp3_inUrl_c20 at hp
  have i36 := @rc3_inUrl_36
  refine am_lf_eq ?_
  generalize am_lf (am_mk kb3_inUrl 0 0 9) [20, 36, 48] = kt at i36 ⊢
  refine am_if (c := v3 = (37 : Int32)) (fun h1 => ?_) (fun h1 => ?_)
  · have q1 := hp.1 h1
    refine am_cy (pre := pr3_ifTwoFollow) (f := fm3_ifTwoFollow) (a' := [.inr (.inl 0), .inl v1]) (wc := (kw_S x)) (w' := (kw_SC x c)) (r := (some (.inl (fn3_ifTwoFollow x v1)), (kw_S x), 0, 0)) ?_ ?_ ?_ ?_ ?_ ?_ ?_ ?_ ?_ ?_
    · exact ks_SC_S_0_o x c
    · rfl
    · rfl
    · exact ks_SC_S_0_s x c
    · exact ⟨x, v1, rfl, rfl, q1.1⟩
    · exact fe3_ifTwoFollow x v1
    · exact kwl_S x
    · rfl
    · exact ks_SC_S_0_m x c x
    refine am_if (c := (fn3_ifTwoFollow x v1) = 0) (fun h2 => ?_) (fun h2 => ?_)
    · have e : fn3_inUrl_c20 x c v1 v3 = ((0 : Int32), c) := by
        rw [fn3_inUrl_c20]
        rw [if_pos h1, if_pos h2]
      rw [e] <;> rfl
    · have q2 := q1.2.2 h2
      have e : fn3_inUrl_c20 x c v1 v3 = fn3_inUrl_c36 x c v3 := by
        rw [fn3_inUrl_c20]
        rw [if_pos h1, if_neg h2]
      rw [e]
      exact i36 x c v3 _ rfl q2
  · have q1 := hp.2 h1
    have e : fn3_inUrl_c20 x c v1 v3 = fn3_inUrl_c36 x c v3 := by
      rw [fn3_inUrl_c20]
      rw [if_neg h1]
    rw [e]
    exact i36 x c v3 _ rfl q1
noncomputable def fn3_inUrl (x : qt5) (c : qt1) (p1 : Int32) : Int32 × qt1 := Classical.choose (⟨_, rfl⟩ : ∃ z : Int32 × qt1, z = (if (fn5_sign x p1) = (38 : Int32) then (if (fn3_ampersand x p1) = 0 then ((0 : Int32), c) else (fn3_inUrl_c20 x c p1 (fn5_sign x p1))) else (fn3_inUrl_c20 x c p1 (fn5_sign x p1))))
theorem fq3_inUrl (x : qt5) (c : qt1) (p1 : Int32) : fn3_inUrl x c p1 = (if (fn5_sign x p1) = (38 : Int32) then (if (fn3_ampersand x p1) = 0 then ((0 : Int32), c) else (fn3_inUrl_c20 x c p1 (fn5_sign x p1))) else (fn3_inUrl_c20 x c p1 (fn5_sign x p1))) := Classical.choose_spec (⟨_, rfl⟩ : ∃ z : Int32 × qt1, z = (if (fn5_sign x p1) = (38 : Int32) then (if (fn3_ampersand x p1) = 0 then ((0 : Int32), c) else (fn3_inUrl_c20 x c p1 (fn5_sign x p1))) else (fn3_inUrl_c20 x c p1 (fn5_sign x p1))))
def wp3_inUrl (x : qt5) (c : qt1) (p1 : Int32) : Prop := ((wp5_sign x p1) ∧ (((fn5_sign x p1) = (38 : Int32) → ((wp3_ampersand x p1) ∧ (((fn3_ampersand x p1) = 0 → True) ∧ (¬ (fn3_ampersand x p1) = 0 → (wp3_inUrl_c20 x c p1 (fn5_sign x p1)))))) ∧ (¬ (fn5_sign x p1) = (38 : Int32) → (wp3_inUrl_c20 x c p1 (fn5_sign x p1)))))
set_option maxRecDepth 100000 in
set_option maxHeartbeats 4000000 in
theorem re3_inUrl (x : qt5) (c : qt1) (p1 : Int32) (hp : wp3_inUrl x c p1) : am_lf (am_mk kb3_inUrl 0 0 9) [20, 36, 48] (0, am_L0 [.inr (.inl 0), .inl p1, .inr (.inl 8)] 4, [], (kw_SC x c), 0, 0) = some (some (.inl ((fn3_inUrl x c p1).1)), (kw_SC x ((fn3_inUrl x c p1).2))) := by
  unfold wp3_inUrl at hp
  have i20 := @rc3_inUrl_20
  refine am_lf_eq ?_
  generalize am_lf (am_mk kb3_inUrl 0 0 9) [20, 36, 48] = kt at i20 ⊢
  refine am_cy (pre := pr5_sign) (f := fm5_sign) (a' := [.inr (.inl 0), .inl p1]) (wc := (kw_S x)) (w' := (kw_SC x c)) (r := (some (.inl (fn5_sign x p1)), (kw_S x), 0, 0)) ?_ ?_ ?_ ?_ ?_ ?_ ?_ ?_ ?_ ?_
  · exact ks_SC_S_0_o x c
  · rfl
  · rfl
  · exact ks_SC_S_0_s x c
  · exact ⟨x, p1, rfl, rfl, hp.1⟩
  · exact fe5_sign x p1
  · exact kwl_S x
  · rfl
  · exact ks_SC_S_0_m x c x
  refine am_if (c := (fn5_sign x p1) = (38 : Int32)) (fun h1 => ?_) (fun h1 => ?_)
  · have q1 := hp.2.1 h1
    refine am_cy (pre := pr3_ampersand) (f := fm3_ampersand) (a' := [.inr (.inl 0), .inl p1]) (wc := (kw_S x)) (w' := (kw_SC x c)) (r := (some (.inl (fn3_ampersand x p1)), (kw_S x), 0, 0)) ?_ ?_ ?_ ?_ ?_ ?_ ?_ ?_ ?_ ?_
    · exact ks_SC_S_0_o x c
    · rfl
    · rfl
    · exact ks_SC_S_0_s x c
    · exact ⟨x, p1, rfl, rfl, q1.1⟩
    · exact fe3_ampersand x p1
    · exact kwl_S x
    · rfl
    · exact ks_SC_S_0_m x c x
    refine am_if (c := (fn3_ampersand x p1) = 0) (fun h2 => ?_) (fun h2 => ?_)
    · have e : fn3_inUrl x c p1 = ((0 : Int32), c) := by
        rw [fq3_inUrl]
        rw [if_pos h1, if_pos h2]
      rw [e] <;> rfl
    · have q2 := q1.2.2 h2
      have e : fn3_inUrl x c p1 = fn3_inUrl_c20 x c p1 (fn5_sign x p1) := by
        rw [fq3_inUrl]
        rw [if_pos h1, if_neg h2]
      rw [e]
      exact i20 x c p1 (fn5_sign x p1)  q2
  · have q1 := hp.2.2 h1
    have e : fn3_inUrl x c p1 = fn3_inUrl_c20 x c p1 (fn5_sign x p1) := by
      rw [fq3_inUrl]
      rw [if_neg h1]
    rw [e]
    exact i20 x c p1 (fn5_sign x p1)  q1
abbrev pr3_inUrl : List am_V → List am_C → Prop := fun a w => ∃ (x : qt5) (c : qt1) (p1 : Int32), a = [.inr (.inl 0), .inl p1, .inr (.inl 8)] ∧ w = (kw_SC x c) ∧ wp3_inUrl x c p1
noncomputable def fm3_inUrl : am_M := fun a w => (fun (z : Int32 × qt1) => (some (.inl (z.1)), (kw_SC (qs5 w 0) (z.2)), 0, 0)) (fn3_inUrl (qs5 w 0) (qs1 w 8) (am_i (am_an a 1)))
theorem fe3_inUrl (x : qt5) (c : qt1) (p1 : Int32) : fm3_inUrl [.inr (.inl 0), .inl p1, .inr (.inl 8)] (kw_SC x c) = (some (.inl ((fn3_inUrl x c p1).1)), (kw_SC x ((fn3_inUrl x c p1).2)), 0, 0) := rfl
set_option maxRecDepth 100000 in
set_option maxHeartbeats 4000000 in
theorem rn3_inUrl : ∀ (a : List am_V) (w : List am_C), pr3_inUrl a w → ∃ nq, am_ev (am_mk kb3_inUrl (fm3_inUrl a w).2.2.1 (fm3_inUrl a w).2.2.2 w.length) [20, 36, 48] nq (0, am_L0 a 4, [], w, 0, 0) = some ((fm3_inUrl a w).1, (fm3_inUrl a w).2.1) := by
  rintro a w ⟨x, c, p1, rfl, rfl, hp⟩
  rw [fe3_inUrl x c p1]
  exact am_lf_ev (re3_inUrl x c p1 hp)
theorem rl3_inUrl : ∀ (a : List am_V) (w : List am_C), pr3_inUrl a w → a.length ≤ 4 := by
  rintro a w ⟨x, c, p1, rfl, rfl, hp⟩
  exact Nat.le_of_ble_eq_true rfl
set_option maxRecDepth 100000 in
set_option maxHeartbeats 4000000 in
theorem km3_inUrl {l : Launch} {E : (Nat → Prop) → State → Prop} {D : va_G} {ou : Nat → Nat} {ca : Nat → ClassId} (hE : hg_E E ou) : hg_Met l E D ou ca hy3_inUrl prog_5_method_13_code 4 (some .int) 2 pr3_inUrl fm3_inUrl := by
  refine am_met (B := kb3_inUrl) (cuts := [20, 36, 48]) (nt := 5) (by decide +kernel) rfl rfl (hg_tys_ok ca) ?_ (by decide) rl3_inUrl ?_ rn3_inUrl
  · exact fun t ht => List.mem_cons_of_mem _ (hg_arr t ht)
  · intro a w hp ad p e R s m args below meth c hR X hEs hnm
    have hR1 : 2 ≤ R.frames ∧ 80 ≤ R.locals := by rw [hR]; exact ⟨Nat.le_refl _, Nat.le_refl _⟩
    have hN := hE.2.1 _ _ hEs
    refine ⟨kd3_inUrl_ok, fun index ci fi mode hq => kf3_ok X.2.2.2.2.1 hN.1 (index, ci, fi, mode) (am_as_mem hq), fun index ci fs hq => (am_no hq).elim, fun x v hq => (am_no hq).elim, ?_, fun o t n f hq => (am_no hq).elim, rfl, rfl, by rw [hR]; exact Nat.le_refl _, by rw [hR]; exact Nat.le_refl _⟩
    intro pc sel n0 pre0 f0 hq
    have hz : ∀ q ∈ ki3_inUrl, am_CK p l e R s m args below meth c D hn_cl (va_A (am_w ad ou ca w) s.heap.size) ou ca 4 q.1 q.2.2.1 q.2.2.2.1 q.2.2.2.2 := by
      refine am_allc (am_ck_V (n := 1) X hEs hE.1 (km5_sign hE) (hg_good (gw_mem 352 (by decide +kernel))) rfl (List.mem_cons_of_mem _ (gw_mem 73 (by decide +kernel))) (List.mem_cons_of_mem _ (gw_mem 349 (by decide +kernel))) (List.mem_cons_of_mem _ (gw_mem 350 (by decide +kernel))) (List.mem_cons_of_mem _ (gw_mem 351 (by decide +kernel))) pa5_sign (by decide +kernel) ⟨Nat.le_trans (by decide) hR1.1, Nat.le_trans (by decide) hR1.2⟩ (kd3_inUrl_ok (2, .invokevirtual 36, 3) (List.mem_of_getElem? (i := 2) rfl))) (am_allc (am_ck_S (n := 2) X hEs hE.1 (km3_ampersand hE) (hg_good (gw_mem 355 (by decide +kernel))) rfl (List.mem_cons_of_mem _ (gw_mem 82 (by decide +kernel))) (List.mem_cons_of_mem _ (gw_mem 353 (by decide +kernel))) (List.mem_cons_of_mem _ (gw_mem 354 (by decide +kernel))) (by decide +kernel) ⟨Nat.le_trans (by decide) hR1.1, Nat.le_trans (by decide) hR1.2⟩ (kd3_inUrl_ok (14, .invokestatic 42, 3) (List.mem_of_getElem? (i := 9) rfl))) (am_allc (am_ck_S (n := 2) X hEs hE.1 (km3_ifTwoFollow hE) (hg_good (gw_mem 483 (by decide +kernel))) rfl (List.mem_cons_of_mem _ (gw_mem 82 (by decide +kernel))) (List.mem_cons_of_mem _ (gw_mem 481 (by decide +kernel))) (List.mem_cons_of_mem _ (gw_mem 482 (by decide +kernel))) (by decide +kernel) ⟨Nat.le_trans (by decide) hR1.1, Nat.le_trans (by decide) hR1.2⟩ (kd3_inUrl_ok (28, .invokestatic 140, 3) (List.mem_of_getElem? (i := 16) rfl))) (am_all0)))
    exact hz _ (am_as_mem hq)
noncomputable def ki3_lessThan : List (Nat × Option (List Nat) × Nat × (List am_V → List am_C → Prop) × am_M) := [(1, some [8], 1, pr1_isStyle, fm1_isStyle), (26, some [], 1, prJ_length, fmJ_length), (31, some [0, 1, 2, 3, 4, 5, 6, 7], 4, pr5_spells, fm5_spells), (39, some [8], 2, pr1_enter, fm1_enter), (43, some [], 1, prJ_length, fmJ_length), (51, some [0, 1, 2, 3, 4, 5, 6, 7], 2, pr5_sign, fm5_sign)]
def kc3_lessThan : List (Nat × am_V) := [(159, .inr (.inr (8 + 1))), (161, .inr (.inr (9 + 1)))]
noncomputable def kb3_lessThan : am_B := (kd3_lessThan, am_as kf3, hn_ty, fun _ => none, am_as kc3_lessThan, am_as ki3_lessThan, fun _ => none, 5, 5, (some .int))
noncomputable def fn3_lessThan_c75 (x : qt5) (c : qt1) : Int32 × qt1 := ((0 : Int32), c)
def wp3_lessThan_c75 (x : qt5) (c : qt1) : Prop := True
set_option maxRecDepth 100000 in
set_option maxHeartbeats 4000000 in
theorem rc3_lessThan_75 (x : qt5) (c : qt1) (j1 : Option am_V) (j3 : Option am_V) (j4 : Option am_V) (g1 : am_loO 9 j1 = true) (g3 : am_loO 9 j3 = true) (g4 : am_loO 9 j4 = true) (hp : wp3_lessThan_c75 x c) : am_lf (am_mk kb3_lessThan 0 0 9) [14, 47, 75] (75, [some (.inr (.inl 0)), j1, some (.inr (.inl 8)), j3, j4], [], (kw_SC x c), 0, 0) = some (some (.inl ((fn3_lessThan_c75 x c).1)), (kw_SC x ((fn3_lessThan_c75 x c).2))) := by
  unfold wp3_lessThan_c75 at hp
  refine am_lf_eq ?_
  generalize am_lf (am_mk kb3_lessThan 0 0 9) [14, 47, 75] = kt
  have e : fn3_lessThan_c75 x c = ((0 : Int32), c) := by
    rw [fn3_lessThan_c75]
  rw [e] <;> rfl
noncomputable def fn3_lessThan_c47 (x : qt5) (c : qt1) (v1 : Int32) : Int32 × qt1 := (if (fn5_sign x (v1 + (1 : Int32))) = 0 then (fn3_lessThan_c75 x c) else (if (fn5_sign x (v1 + (1 : Int32))) = (47 : Int32) then (fn3_lessThan_c75 x c) else (if (fn5_sign x (v1 + (1 : Int32))) = (33 : Int32) then (fn3_lessThan_c75 x c) else ((1 : Int32), c))))
def wp3_lessThan_c47 (x : qt5) (c : qt1) (v1 : Int32) : Prop := ((wp5_sign x (v1 + (1 : Int32))) ∧ (((fn5_sign x (v1 + (1 : Int32))) = 0 → (wp3_lessThan_c75 x c)) ∧ (¬ (fn5_sign x (v1 + (1 : Int32))) = 0 → (((fn5_sign x (v1 + (1 : Int32))) = (47 : Int32) → (wp3_lessThan_c75 x c)) ∧ (¬ (fn5_sign x (v1 + (1 : Int32))) = (47 : Int32) → (((fn5_sign x (v1 + (1 : Int32))) = (33 : Int32) → (wp3_lessThan_c75 x c)) ∧ (¬ (fn5_sign x (v1 + (1 : Int32))) = (33 : Int32) → True)))))))
set_option maxRecDepth 100000 in
set_option maxHeartbeats 4000000 in
theorem rc3_lessThan_47 (x : qt5) (c : qt1) (v1 : Int32) (j3 : Option am_V) (j4 : Option am_V) (g3 : am_loO 9 j3 = true) (g4 : am_loO 9 j4 = true) (hp : wp3_lessThan_c47 x c v1) : am_lf (am_mk kb3_lessThan 0 0 9) [14, 47, 75] (47, [some (.inr (.inl 0)), some (.inl v1), some (.inr (.inl 8)), j3, j4], [], (kw_SC x c), 0, 0) = some (some (.inl ((fn3_lessThan_c47 x c v1).1)), (kw_SC x ((fn3_lessThan_c47 x c v1).2))) := by
  unfold wp3_lessThan_c47 at hp
  have i75 := @rc3_lessThan_75
  refine am_lf_eq ?_
  generalize am_lf (am_mk kb3_lessThan 0 0 9) [14, 47, 75] = kt at i75 ⊢
  refine am_cy (pre := pr5_sign) (f := fm5_sign) (a' := [.inr (.inl 0), .inl (v1 + (1 : Int32))]) (wc := (kw_S x)) (w' := (kw_SC x c)) (r := (some (.inl (fn5_sign x (v1 + (1 : Int32)))), (kw_S x), 0, 0)) ?_ ?_ ?_ ?_ ?_ ?_ ?_ ?_ ?_ ?_
  · exact ks_SC_S_0_o x c
  · rfl
  · rfl
  · exact ks_SC_S_0_s x c
  · exact ⟨x, (v1 + (1 : Int32)), rfl, rfl, hp.1⟩
  · exact fe5_sign x (v1 + (1 : Int32))
  · exact kwl_S x
  · rfl
  · exact ks_SC_S_0_m x c x
  refine am_if (c := (fn5_sign x (v1 + (1 : Int32))) = 0) (fun h1 => ?_) (fun h1 => ?_)
  · have q1 := hp.2.1 h1
    have e : fn3_lessThan_c47 x c v1 = fn3_lessThan_c75 x c := by
      rw [fn3_lessThan_c47]
      rw [if_pos h1]
    rw [e]
    exact i75 x c _ _ _ rfl g3 rfl q1
  · have q1 := hp.2.2 h1
    refine am_if (c := (fn5_sign x (v1 + (1 : Int32))) = (47 : Int32)) (fun h2 => ?_) (fun h2 => ?_)
    · have q2 := q1.1 h2
      have e : fn3_lessThan_c47 x c v1 = fn3_lessThan_c75 x c := by
        rw [fn3_lessThan_c47]
        rw [if_neg h1, if_pos h2]
      rw [e]
      exact i75 x c _ _ _ rfl g3 rfl q2
    · have q2 := q1.2 h2
      refine am_if (c := (fn5_sign x (v1 + (1 : Int32))) = (33 : Int32)) (fun h3 => ?_) (fun h3 => ?_)
      · have q3 := q2.1 h3
        have e : fn3_lessThan_c47 x c v1 = fn3_lessThan_c75 x c := by
          rw [fn3_lessThan_c47]
          rw [if_neg h1, if_neg h2, if_pos h3]
        rw [e]
        exact i75 x c _ _ _ rfl g3 rfl q3
      · have e : fn3_lessThan_c47 x c v1 = ((1 : Int32), c) := by
          rw [fn3_lessThan_c47]
          rw [if_neg h1, if_neg h2, if_neg h3]
        rw [e] <;> rfl
noncomputable def fn3_lessThan_c14 (x : qt5) (c : qt1) (v1 : Int32) (u0 : Nat) : Int32 × qt1 := (if (qg1_part c) = 0 then (if (fn5_spells x v1 (v1 + (fnJ_length u0)) u0) = 0 then (fn3_lessThan_c47 x c v1) else ((fnJ_length u0), (fn1_enter c (0 : Int32)))) else (fn3_lessThan_c47 x c v1))
def wp3_lessThan_c14 (x : qt5) (c : qt1) (v1 : Int32) (u0 : Nat) : Prop := (((qg1_part c) = 0 → ((wpJ_length u0) ∧ ((wp5_spells x v1 (v1 + (fnJ_length u0)) u0) ∧ (((fn5_spells x v1 (v1 + (fnJ_length u0)) u0) = 0 → (wp3_lessThan_c47 x c v1)) ∧ (¬ (fn5_spells x v1 (v1 + (fnJ_length u0)) u0) = 0 → ((wp1_enter c (0 : Int32)) ∧ (wpJ_length u0))))))) ∧ (¬ (qg1_part c) = 0 → (wp3_lessThan_c47 x c v1)))
set_option maxRecDepth 100000 in
set_option maxHeartbeats 4000000 in
theorem rc3_lessThan_14 (x : qt5) (c : qt1) (v1 : Int32) (u0 : Nat) (j3 : Option am_V) (j4 : Option am_V) (g3 : am_loO 9 j3 = true) (g4 : am_loO 9 j4 = true) (hp : wp3_lessThan_c14 x c v1 u0) : am_lf (am_mk kb3_lessThan 0 0 9) [14, 47, 75] (14, [some (.inr (.inl 0)), some (.inl v1), some (.inr (.inl 8)), j3, j4], [.inr (.inr (u0 + 1))], (kw_SC x c), 0, 0) = some (some (.inl ((fn3_lessThan_c14 x c v1 u0).1)), (kw_SC x ((fn3_lessThan_c14 x c v1 u0).2))) := by
  unfold wp3_lessThan_c14 at hp
  have i47 := @rc3_lessThan_47
  refine am_lf_eq ?_
  generalize am_lf (am_mk kb3_lessThan 0 0 9) [14, 47, 75] = kt at i47 ⊢
  refine am_if (c := (qg1_part c) = 0) (fun h1 => ?_) (fun h1 => ?_)
  · have q1 := hp.1 h1
    refine am_cy (pre := prJ_length) (f := fmJ_length) (a' := [.inr (.inr (u0 + 1))]) (wc := []) (w' := (kw_SC x c)) (r := (some (.inl (fnJ_length u0)), [], 0, 0)) ?_ ?_ ?_ ?_ ?_ ?_ ?_ ?_ ?_ ?_
    · exact am_sow0 _
    · rfl
    · rfl
    · exact am_sub0 _
    · exact ⟨u0, rfl, rfl, q1.1⟩
    · exact feJ_length u0
    · exact rfl
    · rfl
    · exact am_mix0 _
    refine am_cy (pre := pr5_spells) (f := fm5_spells) (a' := [.inr (.inl 0), .inl v1, .inl (v1 + (fnJ_length u0)), .inr (.inr (u0 + 1))]) (wc := (kw_S x)) (w' := (kw_SC x c)) (r := (some (.inl (fn5_spells x v1 (v1 + (fnJ_length u0)) u0)), (kw_S x), 0, 0)) ?_ ?_ ?_ ?_ ?_ ?_ ?_ ?_ ?_ ?_
    · exact ks_SC_S_0_o x c
    · rfl
    · rfl
    · exact ks_SC_S_0_s x c
    · exact ⟨x, v1, (v1 + (fnJ_length u0)), u0, rfl, rfl, q1.2.1⟩
    · exact fe5_spells x v1 (v1 + (fnJ_length u0)) u0
    · exact kwl_S x
    · rfl
    · exact ks_SC_S_0_m x c x
    refine am_if (c := (fn5_spells x v1 (v1 + (fnJ_length u0)) u0) = 0) (fun h2 => ?_) (fun h2 => ?_)
    · have q2 := q1.2.2.1 h2
      have e : fn3_lessThan_c14 x c v1 u0 = fn3_lessThan_c47 x c v1 := by
        rw [fn3_lessThan_c14]
        rw [if_pos h1, if_pos h2]
      rw [e]
      exact i47 x c v1 _ _ rfl g4 q2
    · have q2 := q1.2.2.2 h2
      refine am_cy (pre := pr1_enter) (f := fm1_enter) (a' := [.inr (.inl 0), .inl (0 : Int32)]) (wc := (kw_C c)) (w' := (kw_SC x (fn1_enter c (0 : Int32)))) (r := (none, (kw_C (fn1_enter c (0 : Int32))), 0, 0)) ?_ ?_ ?_ ?_ ?_ ?_ ?_ ?_ ?_ ?_
      · exact ks_SC_C_1_o x c
      · rfl
      · rfl
      · exact ks_SC_C_1_s x c
      · exact ⟨c, (0 : Int32), rfl, rfl, q2.1⟩
      · exact fe1_enter c (0 : Int32)
      · exact kwl_C (fn1_enter c (0 : Int32))
      · rfl
      · exact ks_SC_C_1_m x c (fn1_enter c (0 : Int32))
      refine am_cy (pre := prJ_length) (f := fmJ_length) (a' := [.inr (.inr (u0 + 1))]) (wc := []) (w' := (kw_SC x (fn1_enter c (0 : Int32)))) (r := (some (.inl (fnJ_length u0)), [], 0, 0)) ?_ ?_ ?_ ?_ ?_ ?_ ?_ ?_ ?_ ?_
      · exact am_sow0 _
      · rfl
      · rfl
      · exact am_sub0 _
      · exact ⟨u0, rfl, rfl, q2.2⟩
      · exact feJ_length u0
      · exact rfl
      · rfl
      · exact am_mix0 _
      have e : fn3_lessThan_c14 x c v1 u0 = ((fnJ_length u0), (fn1_enter c (0 : Int32))) := by
        rw [fn3_lessThan_c14]
        rw [if_pos h1, if_neg h2]
      rw [e] <;> rfl
  · have q1 := hp.2 h1
    have e : fn3_lessThan_c14 x c v1 u0 = fn3_lessThan_c47 x c v1 := by
      rw [fn3_lessThan_c14]
      rw [if_neg h1]
    rw [e]
    exact i47 x c v1 _ _ rfl g4 q1
noncomputable def fn3_lessThan (x : qt5) (c : qt1) (p1 : Int32) : Int32 × qt1 := Classical.choose (⟨_, rfl⟩ : ∃ z : Int32 × qt1, z = (if (fn1_isStyle c) = 0 then (fn3_lessThan_c14 x c p1 9) else (fn3_lessThan_c14 x c p1 8)))
theorem fq3_lessThan (x : qt5) (c : qt1) (p1 : Int32) : fn3_lessThan x c p1 = (if (fn1_isStyle c) = 0 then (fn3_lessThan_c14 x c p1 9) else (fn3_lessThan_c14 x c p1 8)) := Classical.choose_spec (⟨_, rfl⟩ : ∃ z : Int32 × qt1, z = (if (fn1_isStyle c) = 0 then (fn3_lessThan_c14 x c p1 9) else (fn3_lessThan_c14 x c p1 8)))
def wp3_lessThan (x : qt5) (c : qt1) (p1 : Int32) : Prop := ((wp1_isStyle c) ∧ (((fn1_isStyle c) = 0 → (wp3_lessThan_c14 x c p1 9)) ∧ (¬ (fn1_isStyle c) = 0 → (wp3_lessThan_c14 x c p1 8))))
set_option maxRecDepth 100000 in
set_option maxHeartbeats 4000000 in
theorem re3_lessThan (x : qt5) (c : qt1) (p1 : Int32) (hp : wp3_lessThan x c p1) : am_lf (am_mk kb3_lessThan 0 0 9) [14, 47, 75] (0, am_L0 [.inr (.inl 0), .inl p1, .inr (.inl 8)] 5, [], (kw_SC x c), 0, 0) = some (some (.inl ((fn3_lessThan x c p1).1)), (kw_SC x ((fn3_lessThan x c p1).2))) := by
  unfold wp3_lessThan at hp
  have i14 := @rc3_lessThan_14
  refine am_lf_eq ?_
  generalize am_lf (am_mk kb3_lessThan 0 0 9) [14, 47, 75] = kt at i14 ⊢
  refine am_cy (pre := pr1_isStyle) (f := fm1_isStyle) (a' := [.inr (.inl 0)]) (wc := (kw_C c)) (w' := (kw_SC x c)) (r := (some (.inl (fn1_isStyle c)), (kw_C c), 0, 0)) ?_ ?_ ?_ ?_ ?_ ?_ ?_ ?_ ?_ ?_
  · exact ks_SC_C_1_o x c
  · rfl
  · rfl
  · exact ks_SC_C_1_s x c
  · exact ⟨c, rfl, rfl, hp.1⟩
  · exact fe1_isStyle c
  · exact kwl_C c
  · rfl
  · exact ks_SC_C_1_m x c c
  refine am_if (c := (fn1_isStyle c) = 0) (fun h1 => ?_) (fun h1 => ?_)
  · have q1 := hp.2.1 h1
    have e : fn3_lessThan x c p1 = fn3_lessThan_c14 x c p1 9 := by
      rw [fq3_lessThan]
      rw [if_pos h1]
    rw [e]
    exact i14 x c p1 9 _ _ rfl rfl q1
  · have q1 := hp.2.2 h1
    have e : fn3_lessThan x c p1 = fn3_lessThan_c14 x c p1 8 := by
      rw [fq3_lessThan]
      rw [if_neg h1]
    rw [e]
    exact i14 x c p1 8 _ _ rfl rfl q1
abbrev pr3_lessThan : List am_V → List am_C → Prop := fun a w => ∃ (x : qt5) (c : qt1) (p1 : Int32), a = [.inr (.inl 0), .inl p1, .inr (.inl 8)] ∧ w = (kw_SC x c) ∧ wp3_lessThan x c p1
noncomputable def fm3_lessThan : am_M := fun a w => (fun (z : Int32 × qt1) => (some (.inl (z.1)), (kw_SC (qs5 w 0) (z.2)), 0, 0)) (fn3_lessThan (qs5 w 0) (qs1 w 8) (am_i (am_an a 1)))
theorem fe3_lessThan (x : qt5) (c : qt1) (p1 : Int32) : fm3_lessThan [.inr (.inl 0), .inl p1, .inr (.inl 8)] (kw_SC x c) = (some (.inl ((fn3_lessThan x c p1).1)), (kw_SC x ((fn3_lessThan x c p1).2)), 0, 0) := rfl
set_option maxRecDepth 100000 in
set_option maxHeartbeats 4000000 in
theorem rn3_lessThan : ∀ (a : List am_V) (w : List am_C), pr3_lessThan a w → ∃ nq, am_ev (am_mk kb3_lessThan (fm3_lessThan a w).2.2.1 (fm3_lessThan a w).2.2.2 w.length) [14, 47, 75] nq (0, am_L0 a 5, [], w, 0, 0) = some ((fm3_lessThan a w).1, (fm3_lessThan a w).2.1) := by
  rintro a w ⟨x, c, p1, rfl, rfl, hp⟩
  rw [fe3_lessThan x c p1]
  exact am_lf_ev (re3_lessThan x c p1 hp)
theorem rl3_lessThan : ∀ (a : List am_V) (w : List am_C), pr3_lessThan a w → a.length ≤ 5 := by
  rintro a w ⟨x, c, p1, rfl, rfl, hp⟩
  exact Nat.le_of_ble_eq_true rfl
set_option maxRecDepth 100000 in
set_option maxHeartbeats 4000000 in
theorem km3_lessThan {l : Launch} {E : (Nat → Prop) → State → Prop} {D : va_G} {ou : Nat → Nat} {ca : Nat → ClassId} (hE : hg_E E ou) : hg_Met l E D ou ca hy3_lessThan prog_5_method_15_code 5 (some .int) 5 pr3_lessThan fm3_lessThan := by
  refine am_met (B := kb3_lessThan) (cuts := [14, 47, 75]) (nt := 5) (by decide +kernel) rfl rfl (hg_tys_ok ca) ?_ (by decide) rl3_lessThan ?_ rn3_lessThan
  · exact fun t ht => List.mem_cons_of_mem _ (hg_arr t ht)
  · intro a w hp ad p e R s m args below meth c hR X hEs hnm
    have hR1 : 5 ≤ R.frames ∧ 200 ≤ R.locals := by rw [hR]; exact ⟨Nat.le_refl _, Nat.le_refl _⟩
    have hN := hE.2.1 _ _ hEs
    have hc : ∀ q ∈ kc3_lessThan, am_LK s hn_R3 args ou q.1 q.2 := am_allc (hg_lk hN.2 8 rfl) (am_allc (hg_lk hN.2 9 rfl) (am_all0))
    refine ⟨kd3_lessThan_ok, fun index ci fi mode hq => kf3_ok X.2.2.2.2.1 hN.1 (index, ci, fi, mode) (am_as_mem hq), fun index ci fs hq => (am_no hq).elim, fun x v hq => hc (x, v) (am_as_mem hq), ?_, fun o t n f hq => (am_no hq).elim, rfl, rfl, by rw [hR]; exact Nat.le_refl _, by rw [hR]; exact Nat.le_refl _⟩
    intro pc sel n0 pre0 f0 hq
    have hz : ∀ q ∈ ki3_lessThan, am_CK p l e R s m args below meth c D hn_cl (va_A (am_w ad ou ca w) s.heap.size) ou ca 5 q.1 q.2.2.1 q.2.2.2.1 q.2.2.2.2 := by
      refine am_allc (am_ck_V (n := 0) X hEs hE.1 (km1_isStyle hE) (hg_good (gw_mem 493 (by decide +kernel))) rfl (List.mem_cons_of_mem _ (gw_mem 74 (by decide +kernel))) (List.mem_cons_of_mem _ (gw_mem 490 (by decide +kernel))) (List.mem_cons_of_mem _ (gw_mem 491 (by decide +kernel))) (List.mem_cons_of_mem _ (gw_mem 492 (by decide +kernel))) pa1_isStyle (by decide +kernel) ⟨Nat.le_trans (by decide) hR1.1, Nat.le_trans (by decide) hR1.2⟩ (kd3_lessThan_ok (1, .invokevirtual 155, 3) (List.mem_of_getElem? (i := 1) rfl))) (am_allc (am_ck_VS (n := 0) X hEs hE (kmJ_length hE) (hg_good (gw_mem 367 (by decide +kernel))) rfl (List.mem_cons_of_mem _ (gw_mem 83 (by decide +kernel))) (List.mem_cons_of_mem _ (gw_mem 496 (by decide +kernel))) (List.mem_cons_of_mem _ (gw_mem 365 (by decide +kernel))) (List.mem_cons_of_mem _ (gw_mem 366 (by decide +kernel))) rfl paJ_length (by decide +kernel) ⟨Nat.le_trans (by decide) hR1.1, Nat.le_trans (by decide) hR1.2⟩ (kd3_lessThan_ok (26, .invokevirtual 163, 3) (List.mem_of_getElem? (i := 14) rfl))) (am_allc (am_ck_V (n := 3) X hEs hE.1 (km5_spells hE) (hg_good (gw_mem 363 (by decide +kernel))) rfl (List.mem_cons_of_mem _ (gw_mem 73 (by decide +kernel))) (List.mem_cons_of_mem _ (gw_mem 360 (by decide +kernel))) (List.mem_cons_of_mem _ (gw_mem 361 (by decide +kernel))) (List.mem_cons_of_mem _ (gw_mem 362 (by decide +kernel))) pa5_spells (by decide +kernel) ⟨Nat.le_trans (by decide) hR1.1, Nat.le_trans (by decide) hR1.2⟩ (kd3_lessThan_ok (31, .invokevirtual 48, 3) (List.mem_of_getElem? (i := 17) rfl))) (am_allc (am_ck_V (n := 1) X hEs hE.1 (km1_enter hE) (hg_good (gw_mem 334 (by decide +kernel))) rfl (List.mem_cons_of_mem _ (gw_mem 74 (by decide +kernel))) (List.mem_cons_of_mem _ (gw_mem 413 (by decide +kernel))) (List.mem_cons_of_mem _ (gw_mem 332 (by decide +kernel))) (List.mem_cons_of_mem _ (gw_mem 333 (by decide +kernel))) pa1_enter (by decide +kernel) ⟨Nat.le_trans (by decide) hR1.1, Nat.le_trans (by decide) hR1.2⟩ (kd3_lessThan_ok (39, .invokevirtual 52, 3) (List.mem_of_getElem? (i := 21) rfl))) (am_allc (am_ck_VS (n := 0) X hEs hE (kmJ_length hE) (hg_good (gw_mem 367 (by decide +kernel))) rfl (List.mem_cons_of_mem _ (gw_mem 83 (by decide +kernel))) (List.mem_cons_of_mem _ (gw_mem 496 (by decide +kernel))) (List.mem_cons_of_mem _ (gw_mem 365 (by decide +kernel))) (List.mem_cons_of_mem _ (gw_mem 366 (by decide +kernel))) rfl paJ_length (by decide +kernel) ⟨Nat.le_trans (by decide) hR1.1, Nat.le_trans (by decide) hR1.2⟩ (kd3_lessThan_ok (43, .invokevirtual 163, 3) (List.mem_of_getElem? (i := 23) rfl))) (am_allc (am_ck_V (n := 1) X hEs hE.1 (km5_sign hE) (hg_good (gw_mem 352 (by decide +kernel))) rfl (List.mem_cons_of_mem _ (gw_mem 73 (by decide +kernel))) (List.mem_cons_of_mem _ (gw_mem 349 (by decide +kernel))) (List.mem_cons_of_mem _ (gw_mem 350 (by decide +kernel))) (List.mem_cons_of_mem _ (gw_mem 351 (by decide +kernel))) pa5_sign (by decide +kernel) ⟨Nat.le_trans (by decide) hR1.1, Nat.le_trans (by decide) hR1.2⟩ (kd3_lessThan_ok (51, .invokevirtual 36, 3) (List.mem_of_getElem? (i := 29) rfl))) (am_all0))))))
    exact hz _ (am_as_mem hq)
noncomputable def ki3_inBareCode : List (Nat × Option (List Nat) × Nat × (List am_V → List am_C → Prop) × am_M) := [(2, some [0, 1, 2, 3, 4, 5, 6, 7], 2, pr5_sign, fm5_sign), (10, some [0, 1, 2, 3, 4, 5, 6, 7], 2, pr5_sign, fm5_sign), (16, some [8], 1, pr1_isStyle, fm1_isStyle), (102, some [], 1, pr4_isQuote, fm4_isQuote)]
noncomputable def kb3_inBareCode : am_B := (kd3_inBareCode, am_as kf3, hn_ty, fun _ => none, fun _ => none, am_as ki3_inBareCode, fun _ => none, 5, 6, (some .int))
noncomputable def fn3_inBareCode_c120 (x : qt5) (c : qt1) (u0 : Int32) : Int32 × qt1 := ((1 : Int32), (qu1_part c u0))
def wp3_inBareCode_c120 (x : qt5) (c : qt1) (u0 : Int32) : Prop := True
set_option maxRecDepth 100000 in
set_option maxHeartbeats 4000000 in
theorem rc3_inBareCode_120 (x : qt5) (c : qt1) (u0 : Int32) (j1 : Option am_V) (j3 : Option am_V) (j4 : Option am_V) (j5 : Option am_V) (g1 : am_loO 9 j1 = true) (g3 : am_loO 9 j3 = true) (g4 : am_loO 9 j4 = true) (g5 : am_loO 9 j5 = true) (hp : wp3_inBareCode_c120 x c u0) : am_lf (am_mk kb3_inBareCode 0 0 9) [41, 66, 101, 120] (120, [some (.inr (.inl 0)), j1, some (.inr (.inl 8)), j3, j4, j5], [.inl u0, .inr (.inl 8)], (kw_SC x c), 0, 0) = some (some (.inl ((fn3_inBareCode_c120 x c u0).1)), (kw_SC x ((fn3_inBareCode_c120 x c u0).2))) := by
  unfold wp3_inBareCode_c120 at hp
  refine am_lf_eq ?_
  generalize am_lf (am_mk kb3_inBareCode 0 0 9) [41, 66, 101, 120] = kt
  refine am_sp (w' := (kw_SC x (qu1_part c u0))) (kp_SC_1_part x c u0) ?_
  have e : fn3_inBareCode_c120 x c u0 = ((1 : Int32), (qu1_part c u0)) := by
    rw [fn3_inBareCode_c120]
  rw [e] <;> rfl
noncomputable def fn3_inBareCode_c101 (x : qt5) (c : qt1) (v3 : Int32) : Int32 × qt1 := (if (fn4_isQuote v3) = 0 then ((1 : Int32), c) else (if v3 = (39 : Int32) then (fn3_inBareCode_c120 x c (1 : Int32)) else (fn3_inBareCode_c120 x c (2 : Int32))))
def wp3_inBareCode_c101 (x : qt5) (c : qt1) (v3 : Int32) : Prop := ((wp4_isQuote v3) ∧ (((fn4_isQuote v3) = 0 → True) ∧ (¬ (fn4_isQuote v3) = 0 → ((v3 = (39 : Int32) → (wp3_inBareCode_c120 x c (1 : Int32))) ∧ (¬ v3 = (39 : Int32) → (wp3_inBareCode_c120 x c (2 : Int32)))))))
set_option maxRecDepth 100000 in
set_option maxHeartbeats 4000000 in
theorem rc3_inBareCode_101 (x : qt5) (c : qt1) (v3 : Int32) (j1 : Option am_V) (j4 : Option am_V) (j5 : Option am_V) (g1 : am_loO 9 j1 = true) (g4 : am_loO 9 j4 = true) (g5 : am_loO 9 j5 = true) (hp : wp3_inBareCode_c101 x c v3) : am_lf (am_mk kb3_inBareCode 0 0 9) [41, 66, 101, 120] (101, [some (.inr (.inl 0)), j1, some (.inr (.inl 8)), some (.inl v3), j4, j5], [], (kw_SC x c), 0, 0) = some (some (.inl ((fn3_inBareCode_c101 x c v3).1)), (kw_SC x ((fn3_inBareCode_c101 x c v3).2))) := by
  unfold wp3_inBareCode_c101 at hp
  have i120 := @rc3_inBareCode_120
  refine am_lf_eq ?_
  generalize am_lf (am_mk kb3_inBareCode 0 0 9) [41, 66, 101, 120] = kt at i120 ⊢
  refine am_cy (pre := pr4_isQuote) (f := fm4_isQuote) (a' := [.inl v3]) (wc := []) (w' := (kw_SC x c)) (r := (some (.inl (fn4_isQuote v3)), [], 0, 0)) ?_ ?_ ?_ ?_ ?_ ?_ ?_ ?_ ?_ ?_
  · exact am_sow0 _
  · rfl
  · rfl
  · exact am_sub0 _
  · exact ⟨v3, rfl, rfl, hp.1⟩
  · exact fe4_isQuote v3
  · exact rfl
  · rfl
  · exact am_mix0 _
  refine am_if (c := (fn4_isQuote v3) = 0) (fun h1 => ?_) (fun h1 => ?_)
  · have e : fn3_inBareCode_c101 x c v3 = ((1 : Int32), c) := by
      rw [fn3_inBareCode_c101]
      rw [if_pos h1]
    rw [e] <;> rfl
  · have q1 := hp.2.2 h1
    refine am_if (c := v3 = (39 : Int32)) (fun h2 => ?_) (fun h2 => ?_)
    · have q2 := q1.1 h2
      have e : fn3_inBareCode_c101 x c v3 = fn3_inBareCode_c120 x c (1 : Int32) := by
        rw [fn3_inBareCode_c101]
        rw [if_neg h1, if_pos h2]
      rw [e]
      exact i120 x c (1 : Int32) _ _ _ _ g1 rfl g4 g5 q2
    · have q2 := q1.2 h2
      have e : fn3_inBareCode_c101 x c v3 = fn3_inBareCode_c120 x c (2 : Int32) := by
        rw [fn3_inBareCode_c101]
        rw [if_neg h1, if_neg h2]
      rw [e]
      exact i120 x c (2 : Int32) _ _ _ _ g1 rfl g4 g5 q2
noncomputable def fn3_inBareCode_c66 (x : qt5) (c : qt1) (v3 : Int32) (v4 : Int32) (v5 : Int32) : Int32 × qt1 := (if v3 = (47 : Int32) then (if v5 = 0 then ((0 : Int32), c) else (if v4 = 0 then ((0 : Int32), c) else ((1 : Int32), c))) else (if v3 = (96 : Int32) then (if v5 = 0 then ((0 : Int32), c) else (fn3_inBareCode_c101 x c v3)) else (fn3_inBareCode_c101 x c v3)))
def wp3_inBareCode_c66 (x : qt5) (c : qt1) (v3 : Int32) (v4 : Int32) (v5 : Int32) : Prop := ((v3 = (47 : Int32) → True) ∧ (¬ v3 = (47 : Int32) → ((v3 = (96 : Int32) → ((v5 = 0 → True) ∧ (¬ v5 = 0 → (wp3_inBareCode_c101 x c v3)))) ∧ (¬ v3 = (96 : Int32) → (wp3_inBareCode_c101 x c v3)))))
set_option maxRecDepth 100000 in
set_option maxHeartbeats 4000000 in
theorem rc3_inBareCode_66 (x : qt5) (c : qt1) (v3 : Int32) (v4 : Int32) (v5 : Int32) (j1 : Option am_V) (g1 : am_loO 9 j1 = true) (hp : wp3_inBareCode_c66 x c v3 v4 v5) : am_lf (am_mk kb3_inBareCode 0 0 9) [41, 66, 101, 120] (66, [some (.inr (.inl 0)), j1, some (.inr (.inl 8)), some (.inl v3), some (.inl v4), some (.inl v5)], [], (kw_SC x c), 0, 0) = some (some (.inl ((fn3_inBareCode_c66 x c v3 v4 v5).1)), (kw_SC x ((fn3_inBareCode_c66 x c v3 v4 v5).2))) := by
  unfold wp3_inBareCode_c66 at hp
  have i101 := @rc3_inBareCode_101
  refine am_lf_eq ?_
  generalize am_lf (am_mk kb3_inBareCode 0 0 9) [41, 66, 101, 120] = kt at i101 ⊢
  refine am_if (c := v3 = (47 : Int32)) (fun h1 => ?_) (fun h1 => ?_)
  · refine am_if (c := v5 = 0) (fun h2 => ?_) (fun h2 => ?_)
    · have e : fn3_inBareCode_c66 x c v3 v4 v5 = ((0 : Int32), c) := by
        rw [fn3_inBareCode_c66]
        rw [if_pos h1, if_pos h2]
      rw [e] <;> rfl
    · refine am_if (c := v4 = 0) (fun h3 => ?_) (fun h3 => ?_)
      · have e : fn3_inBareCode_c66 x c v3 v4 v5 = ((0 : Int32), c) := by
          rw [fn3_inBareCode_c66]
          rw [if_pos h1, if_neg h2, if_pos h3]
        rw [e] <;> rfl
      · have e : fn3_inBareCode_c66 x c v3 v4 v5 = ((1 : Int32), c) := by
          rw [fn3_inBareCode_c66]
          rw [if_pos h1, if_neg h2, if_neg h3]
        rw [e] <;> rfl
  · have q1 := hp.2 h1
    refine am_if (c := v3 = (96 : Int32)) (fun h2 => ?_) (fun h2 => ?_)
    · have q2 := q1.1 h2
      refine am_if (c := v5 = 0) (fun h3 => ?_) (fun h3 => ?_)
      · have e : fn3_inBareCode_c66 x c v3 v4 v5 = ((0 : Int32), c) := by
          rw [fn3_inBareCode_c66]
          rw [if_neg h1, if_pos h2, if_pos h3]
        rw [e] <;> rfl
      · have q3 := q2.2 h3
        have e : fn3_inBareCode_c66 x c v3 v4 v5 = fn3_inBareCode_c101 x c v3 := by
          rw [fn3_inBareCode_c66]
          rw [if_neg h1, if_pos h2, if_neg h3]
        rw [e]
        exact i101 x c v3 _ _ _ g1 rfl rfl q3
    · have q2 := q1.2 h2
      have e : fn3_inBareCode_c66 x c v3 v4 v5 = fn3_inBareCode_c101 x c v3 := by
        rw [fn3_inBareCode_c66]
        rw [if_neg h1, if_neg h2]
      rw [e]
      exact i101 x c v3 _ _ _ g1 rfl rfl q2
noncomputable def fn3_inBareCode_c41 (x : qt5) (c : qt1) (v3 : Int32) (v4 : Int32) (v5 : Int32) : Int32 × qt1 := (if v3 = (47 : Int32) then (if v4 = (47 : Int32) then (if v5 = 0 then ((2 : Int32), (qu1_part c (3 : Int32))) else (fn3_inBareCode_c66 x c v3 v4 v5)) else (fn3_inBareCode_c66 x c v3 v4 v5)) else (fn3_inBareCode_c66 x c v3 v4 v5))
def wp3_inBareCode_c41 (x : qt5) (c : qt1) (v3 : Int32) (v4 : Int32) (v5 : Int32) : Prop := ((v3 = (47 : Int32) → ((v4 = (47 : Int32) → ((v5 = 0 → True) ∧ (¬ v5 = 0 → (wp3_inBareCode_c66 x c v3 v4 v5)))) ∧ (¬ v4 = (47 : Int32) → (wp3_inBareCode_c66 x c v3 v4 v5)))) ∧ (¬ v3 = (47 : Int32) → (wp3_inBareCode_c66 x c v3 v4 v5)))
set_option maxRecDepth 100000 in
set_option maxHeartbeats 4000000 in
theorem rc3_inBareCode_41 (x : qt5) (c : qt1) (v3 : Int32) (v4 : Int32) (v5 : Int32) (j1 : Option am_V) (g1 : am_loO 9 j1 = true) (hp : wp3_inBareCode_c41 x c v3 v4 v5) : am_lf (am_mk kb3_inBareCode 0 0 9) [41, 66, 101, 120] (41, [some (.inr (.inl 0)), j1, some (.inr (.inl 8)), some (.inl v3), some (.inl v4), some (.inl v5)], [], (kw_SC x c), 0, 0) = some (some (.inl ((fn3_inBareCode_c41 x c v3 v4 v5).1)), (kw_SC x ((fn3_inBareCode_c41 x c v3 v4 v5).2))) := by
  unfold wp3_inBareCode_c41 at hp
  have i66 := @rc3_inBareCode_66
  refine am_lf_eq ?_
  generalize am_lf (am_mk kb3_inBareCode 0 0 9) [41, 66, 101, 120] = kt at i66 ⊢
  refine am_if (c := v3 = (47 : Int32)) (fun h1 => ?_) (fun h1 => ?_)
  · have q1 := hp.1 h1
    refine am_if (c := v4 = (47 : Int32)) (fun h2 => ?_) (fun h2 => ?_)
    · have q2 := q1.1 h2
      refine am_if (c := v5 = 0) (fun h3 => ?_) (fun h3 => ?_)
      · refine am_sp (w' := (kw_SC x (qu1_part c (3 : Int32)))) (kp_SC_1_part x c (3 : Int32)) ?_
        have e : fn3_inBareCode_c41 x c v3 v4 v5 = ((2 : Int32), (qu1_part c (3 : Int32))) := by
          rw [fn3_inBareCode_c41]
          rw [if_pos h1, if_pos h2, if_pos h3]
        rw [e] <;> rfl
      · have q3 := q2.2 h3
        have e : fn3_inBareCode_c41 x c v3 v4 v5 = fn3_inBareCode_c66 x c v3 v4 v5 := by
          rw [fn3_inBareCode_c41]
          rw [if_pos h1, if_pos h2, if_neg h3]
        rw [e]
        exact i66 x c v3 v4 v5 _ g1 q3
    · have q2 := q1.2 h2
      have e : fn3_inBareCode_c41 x c v3 v4 v5 = fn3_inBareCode_c66 x c v3 v4 v5 := by
        rw [fn3_inBareCode_c41]
        rw [if_pos h1, if_neg h2]
      rw [e]
      exact i66 x c v3 v4 v5 _ g1 q2
  · have q1 := hp.2 h1
    have e : fn3_inBareCode_c41 x c v3 v4 v5 = fn3_inBareCode_c66 x c v3 v4 v5 := by
      rw [fn3_inBareCode_c41]
      rw [if_neg h1]
    rw [e]
    exact i66 x c v3 v4 v5 _ g1 q1
noncomputable def fn3_inBareCode (x : qt5) (c : qt1) (p1 : Int32) : Int32 × qt1 := Classical.choose (⟨_, rfl⟩ : ∃ z : Int32 × qt1, z = (if (fn5_sign x p1) = (47 : Int32) then (if (fn5_sign x (p1 + (1 : Int32))) = (42 : Int32) then ((2 : Int32), (qu1_part c (4 : Int32))) else (fn3_inBareCode_c41 x c (fn5_sign x p1) (fn5_sign x (p1 + (1 : Int32))) (fn1_isStyle c))) else (fn3_inBareCode_c41 x c (fn5_sign x p1) (fn5_sign x (p1 + (1 : Int32))) (fn1_isStyle c))))
theorem fq3_inBareCode (x : qt5) (c : qt1) (p1 : Int32) : fn3_inBareCode x c p1 = (if (fn5_sign x p1) = (47 : Int32) then (if (fn5_sign x (p1 + (1 : Int32))) = (42 : Int32) then ((2 : Int32), (qu1_part c (4 : Int32))) else (fn3_inBareCode_c41 x c (fn5_sign x p1) (fn5_sign x (p1 + (1 : Int32))) (fn1_isStyle c))) else (fn3_inBareCode_c41 x c (fn5_sign x p1) (fn5_sign x (p1 + (1 : Int32))) (fn1_isStyle c))) := Classical.choose_spec (⟨_, rfl⟩ : ∃ z : Int32 × qt1, z = (if (fn5_sign x p1) = (47 : Int32) then (if (fn5_sign x (p1 + (1 : Int32))) = (42 : Int32) then ((2 : Int32), (qu1_part c (4 : Int32))) else (fn3_inBareCode_c41 x c (fn5_sign x p1) (fn5_sign x (p1 + (1 : Int32))) (fn1_isStyle c))) else (fn3_inBareCode_c41 x c (fn5_sign x p1) (fn5_sign x (p1 + (1 : Int32))) (fn1_isStyle c))))
def wp3_inBareCode (x : qt5) (c : qt1) (p1 : Int32) : Prop := ((wp5_sign x p1) ∧ ((wp5_sign x (p1 + (1 : Int32))) ∧ ((wp1_isStyle c) ∧ (((fn5_sign x p1) = (47 : Int32) → (((fn5_sign x (p1 + (1 : Int32))) = (42 : Int32) → True) ∧ (¬ (fn5_sign x (p1 + (1 : Int32))) = (42 : Int32) → (wp3_inBareCode_c41 x c (fn5_sign x p1) (fn5_sign x (p1 + (1 : Int32))) (fn1_isStyle c))))) ∧ (¬ (fn5_sign x p1) = (47 : Int32) → (wp3_inBareCode_c41 x c (fn5_sign x p1) (fn5_sign x (p1 + (1 : Int32))) (fn1_isStyle c)))))))
set_option maxRecDepth 100000 in
set_option maxHeartbeats 4000000 in
theorem re3_inBareCode (x : qt5) (c : qt1) (p1 : Int32) (hp : wp3_inBareCode x c p1) : am_lf (am_mk kb3_inBareCode 0 0 9) [41, 66, 101, 120] (0, am_L0 [.inr (.inl 0), .inl p1, .inr (.inl 8)] 6, [], (kw_SC x c), 0, 0) = some (some (.inl ((fn3_inBareCode x c p1).1)), (kw_SC x ((fn3_inBareCode x c p1).2))) := by
  unfold wp3_inBareCode at hp
  have i41 := @rc3_inBareCode_41
  refine am_lf_eq ?_
  generalize am_lf (am_mk kb3_inBareCode 0 0 9) [41, 66, 101, 120] = kt at i41 ⊢
  refine am_cy (pre := pr5_sign) (f := fm5_sign) (a' := [.inr (.inl 0), .inl p1]) (wc := (kw_S x)) (w' := (kw_SC x c)) (r := (some (.inl (fn5_sign x p1)), (kw_S x), 0, 0)) ?_ ?_ ?_ ?_ ?_ ?_ ?_ ?_ ?_ ?_
  · exact ks_SC_S_0_o x c
  · rfl
  · rfl
  · exact ks_SC_S_0_s x c
  · exact ⟨x, p1, rfl, rfl, hp.1⟩
  · exact fe5_sign x p1
  · exact kwl_S x
  · rfl
  · exact ks_SC_S_0_m x c x
  refine am_cy (pre := pr5_sign) (f := fm5_sign) (a' := [.inr (.inl 0), .inl (p1 + (1 : Int32))]) (wc := (kw_S x)) (w' := (kw_SC x c)) (r := (some (.inl (fn5_sign x (p1 + (1 : Int32)))), (kw_S x), 0, 0)) ?_ ?_ ?_ ?_ ?_ ?_ ?_ ?_ ?_ ?_
  · exact ks_SC_S_0_o x c
  · rfl
  · rfl
  · exact ks_SC_S_0_s x c
  · exact ⟨x, (p1 + (1 : Int32)), rfl, rfl, hp.2.1⟩
  · exact fe5_sign x (p1 + (1 : Int32))
  · exact kwl_S x
  · rfl
  · exact ks_SC_S_0_m x c x
  refine am_cy (pre := pr1_isStyle) (f := fm1_isStyle) (a' := [.inr (.inl 0)]) (wc := (kw_C c)) (w' := (kw_SC x c)) (r := (some (.inl (fn1_isStyle c)), (kw_C c), 0, 0)) ?_ ?_ ?_ ?_ ?_ ?_ ?_ ?_ ?_ ?_
  · exact ks_SC_C_1_o x c
  · rfl
  · rfl
  · exact ks_SC_C_1_s x c
  · exact ⟨c, rfl, rfl, hp.2.2.1⟩
  · exact fe1_isStyle c
  · exact kwl_C c
  · rfl
  · exact ks_SC_C_1_m x c c
  refine am_if (c := (fn5_sign x p1) = (47 : Int32)) (fun h1 => ?_) (fun h1 => ?_)
  · have q1 := hp.2.2.2.1 h1
    refine am_if (c := (fn5_sign x (p1 + (1 : Int32))) = (42 : Int32)) (fun h2 => ?_) (fun h2 => ?_)
    · refine am_sp (w' := (kw_SC x (qu1_part c (4 : Int32)))) (kp_SC_1_part x c (4 : Int32)) ?_
      have e : fn3_inBareCode x c p1 = ((2 : Int32), (qu1_part c (4 : Int32))) := by
        rw [fq3_inBareCode]
        rw [if_pos h1, if_pos h2]
      rw [e] <;> rfl
    · have q2 := q1.2 h2
      have e : fn3_inBareCode x c p1 = fn3_inBareCode_c41 x c (fn5_sign x p1) (fn5_sign x (p1 + (1 : Int32))) (fn1_isStyle c) := by
        rw [fq3_inBareCode]
        rw [if_pos h1, if_neg h2]
      rw [e]
      exact i41 x c (fn5_sign x p1) (fn5_sign x (p1 + (1 : Int32))) (fn1_isStyle c) _ rfl q2
  · have q1 := hp.2.2.2.2 h1
    have e : fn3_inBareCode x c p1 = fn3_inBareCode_c41 x c (fn5_sign x p1) (fn5_sign x (p1 + (1 : Int32))) (fn1_isStyle c) := by
      rw [fq3_inBareCode]
      rw [if_neg h1]
    rw [e]
    exact i41 x c (fn5_sign x p1) (fn5_sign x (p1 + (1 : Int32))) (fn1_isStyle c) _ rfl q1
abbrev pr3_inBareCode : List am_V → List am_C → Prop := fun a w => ∃ (x : qt5) (c : qt1) (p1 : Int32), a = [.inr (.inl 0), .inl p1, .inr (.inl 8)] ∧ w = (kw_SC x c) ∧ wp3_inBareCode x c p1
noncomputable def fm3_inBareCode : am_M := fun a w => (fun (z : Int32 × qt1) => (some (.inl (z.1)), (kw_SC (qs5 w 0) (z.2)), 0, 0)) (fn3_inBareCode (qs5 w 0) (qs1 w 8) (am_i (am_an a 1)))
theorem fe3_inBareCode (x : qt5) (c : qt1) (p1 : Int32) : fm3_inBareCode [.inr (.inl 0), .inl p1, .inr (.inl 8)] (kw_SC x c) = (some (.inl ((fn3_inBareCode x c p1).1)), (kw_SC x ((fn3_inBareCode x c p1).2)), 0, 0) := rfl
set_option maxRecDepth 100000 in
set_option maxHeartbeats 4000000 in
theorem rn3_inBareCode : ∀ (a : List am_V) (w : List am_C), pr3_inBareCode a w → ∃ nq, am_ev (am_mk kb3_inBareCode (fm3_inBareCode a w).2.2.1 (fm3_inBareCode a w).2.2.2 w.length) [41, 66, 101, 120] nq (0, am_L0 a 6, [], w, 0, 0) = some ((fm3_inBareCode a w).1, (fm3_inBareCode a w).2.1) := by
  rintro a w ⟨x, c, p1, rfl, rfl, hp⟩
  rw [fe3_inBareCode x c p1]
  exact am_lf_ev (re3_inBareCode x c p1 hp)
theorem rl3_inBareCode : ∀ (a : List am_V) (w : List am_C), pr3_inBareCode a w → a.length ≤ 6 := by
  rintro a w ⟨x, c, p1, rfl, rfl, hp⟩
  exact Nat.le_of_ble_eq_true rfl
set_option maxRecDepth 100000 in
set_option maxHeartbeats 4000000 in
theorem km3_inBareCode {l : Launch} {E : (Nat → Prop) → State → Prop} {D : va_G} {ou : Nat → Nat} {ca : Nat → ClassId} (hE : hg_E E ou) : hg_Met l E D ou ca hy3_inBareCode prog_5_method_16_code 6 (some .int) 1 pr3_inBareCode fm3_inBareCode := by
  refine am_met (B := kb3_inBareCode) (cuts := [41, 66, 101, 120]) (nt := 5) (by decide +kernel) rfl rfl (hg_tys_ok ca) ?_ (by decide) rl3_inBareCode ?_ rn3_inBareCode
  · exact fun t ht => List.mem_cons_of_mem _ (hg_arr t ht)
  · intro a w hp ad p e R s m args below meth c hR X hEs hnm
    have hR1 : 1 ≤ R.frames ∧ 40 ≤ R.locals := by rw [hR]; exact ⟨Nat.le_refl _, Nat.le_refl _⟩
    have hN := hE.2.1 _ _ hEs
    refine ⟨kd3_inBareCode_ok, fun index ci fi mode hq => kf3_ok X.2.2.2.2.1 hN.1 (index, ci, fi, mode) (am_as_mem hq), fun index ci fs hq => (am_no hq).elim, fun x v hq => (am_no hq).elim, ?_, fun o t n f hq => (am_no hq).elim, rfl, rfl, by rw [hR]; exact Nat.le_refl _, by rw [hR]; exact Nat.le_refl _⟩
    intro pc sel n0 pre0 f0 hq
    have hz : ∀ q ∈ ki3_inBareCode, am_CK p l e R s m args below meth c D hn_cl (va_A (am_w ad ou ca w) s.heap.size) ou ca 6 q.1 q.2.2.1 q.2.2.2.1 q.2.2.2.2 := by
      refine am_allc (am_ck_V (n := 1) X hEs hE.1 (km5_sign hE) (hg_good (gw_mem 352 (by decide +kernel))) rfl (List.mem_cons_of_mem _ (gw_mem 73 (by decide +kernel))) (List.mem_cons_of_mem _ (gw_mem 349 (by decide +kernel))) (List.mem_cons_of_mem _ (gw_mem 350 (by decide +kernel))) (List.mem_cons_of_mem _ (gw_mem 351 (by decide +kernel))) pa5_sign (by decide +kernel) ⟨Nat.le_trans (by decide) hR1.1, Nat.le_trans (by decide) hR1.2⟩ (kd3_inBareCode_ok (2, .invokevirtual 36, 3) (List.mem_of_getElem? (i := 2) rfl))) (am_allc (am_ck_V (n := 1) X hEs hE.1 (km5_sign hE) (hg_good (gw_mem 352 (by decide +kernel))) rfl (List.mem_cons_of_mem _ (gw_mem 73 (by decide +kernel))) (List.mem_cons_of_mem _ (gw_mem 349 (by decide +kernel))) (List.mem_cons_of_mem _ (gw_mem 350 (by decide +kernel))) (List.mem_cons_of_mem _ (gw_mem 351 (by decide +kernel))) pa5_sign (by decide +kernel) ⟨Nat.le_trans (by decide) hR1.1, Nat.le_trans (by decide) hR1.2⟩ (kd3_inBareCode_ok (10, .invokevirtual 36, 3) (List.mem_of_getElem? (i := 8) rfl))) (am_allc (am_ck_V (n := 0) X hEs hE.1 (km1_isStyle hE) (hg_good (gw_mem 493 (by decide +kernel))) rfl (List.mem_cons_of_mem _ (gw_mem 74 (by decide +kernel))) (List.mem_cons_of_mem _ (gw_mem 490 (by decide +kernel))) (List.mem_cons_of_mem _ (gw_mem 491 (by decide +kernel))) (List.mem_cons_of_mem _ (gw_mem 492 (by decide +kernel))) pa1_isStyle (by decide +kernel) ⟨Nat.le_trans (by decide) hR1.1, Nat.le_trans (by decide) hR1.2⟩ (kd3_inBareCode_ok (16, .invokevirtual 155, 3) (List.mem_of_getElem? (i := 11) rfl))) (am_allc (am_ck_S (n := 1) X hEs hE.1 (km4_isQuote hE) (hg_good (gw_mem 463 (by decide +kernel))) rfl (List.mem_cons_of_mem _ (gw_mem 77 (by decide +kernel))) (List.mem_cons_of_mem _ (gw_mem 461 (by decide +kernel))) (List.mem_cons_of_mem _ (gw_mem 462 (by decide +kernel))) (by decide +kernel) ⟨Nat.le_trans (by decide) hR1.1, Nat.le_trans (by decide) hR1.2⟩ (kd3_inBareCode_ok (102, .invokestatic 109, 3) (List.mem_of_getElem? (i := 56) rfl))) (am_all0))))
    exact hz _ (am_as_mem hq)
