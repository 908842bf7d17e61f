noncomputable def ki3_inComment : List (Nat × Option (List Nat) × Nat × (List am_V → List am_C → Prop) × am_M) := [(7, some [0, 1, 2, 3, 4, 5, 6, 7], 4, pr5_spells, fm5_spells), (15, some [8], 2, pr1_enter, fm1_enter), (22, some [0, 1, 2, 3, 4, 5, 6, 7], 2, pr5_sign, fm5_sign), (32, some [0, 1, 2, 3, 4, 5, 6, 7], 2, pr3_ifTwoFollow, fm3_ifTwoFollow)]
def kc3_inComment : List (Nat × am_V) := [(171, .inr (.inr (11 + 1)))]
noncomputable def kb3_inComment : am_B := (kd3_inComment, am_as kf3, hn_ty, fun _ => none, am_as kc3_inComment, am_as ki3_inComment, fun _ => none, 5, 3, (some .int))
noncomputable def fn3_inComment (x : qt5) (c : qt1) (p1 : Int32) : Int32 × qt1 := Classical.choose (⟨_, rfl⟩ : ∃ z : Int32 × qt1, z = (if (fn5_spells x p1 (p1 + (3 : Int32)) 11) = 0 then (if (fn5_sign x p1) = (45 : Int32) then ((fn3_ifTwoFollow x p1), c) else ((1 : Int32), c)) else ((3 : Int32), (fn1_enter c (0 : Int32)))))
theorem fq3_inComment (x : qt5) (c : qt1) (p1 : Int32) : fn3_inComment x c p1 = (if (fn5_spells x p1 (p1 + (3 : Int32)) 11) = 0 then (if (fn5_sign x p1) = (45 : Int32) then ((fn3_ifTwoFollow x p1), c) else ((1 : Int32), c)) else ((3 : Int32), (fn1_enter c (0 : Int32)))) := Classical.choose_spec (⟨_, rfl⟩ : ∃ z : Int32 × qt1, z = (if (fn5_spells x p1 (p1 + (3 : Int32)) 11) = 0 then (if (fn5_sign x p1) = (45 : Int32) then ((fn3_ifTwoFollow x p1), c) else ((1 : Int32), c)) else ((3 : Int32), (fn1_enter c (0 : Int32)))))
def wp3_inComment (x : qt5) (c : qt1) (p1 : Int32) : Prop := ((wp5_spells x p1 (p1 + (3 : Int32)) 11) ∧ (((fn5_spells x p1 (p1 + (3 : Int32)) 11) = 0 → ((wp5_sign x p1) ∧ (((fn5_sign x p1) = (45 : Int32) → (wp3_ifTwoFollow x p1)) ∧ (¬ (fn5_sign x p1) = (45 : Int32) → True)))) ∧ (¬ (fn5_spells x p1 (p1 + (3 : Int32)) 11) = 0 → (wp1_enter c (0 : Int32)))))
set_option maxRecDepth 100000 in
set_option maxHeartbeats 4000000 in
theorem re3_inComment (x : qt5) (c : qt1) (p1 : Int32) (hp : wp3_inComment x c p1) : am_lf (am_mk kb3_inComment 0 0 9) [] (0, am_L0 [.inr (.inl 0), .inl p1, .inr (.inl 8)] 3, [], (kw_SC x c), 0, 0) = some (some (.inl ((fn3_inComment x c p1).1)), (kw_SC x ((fn3_inComment x c p1).2))) := by
  unfold wp3_inComment at hp
  refine am_lf_eq ?_
  generalize am_lf (am_mk kb3_inComment 0 0 9) [] = kt
  refine am_cy (pre := pr5_spells) (f := fm5_spells) (a' := [.inr (.inl 0), .inl p1, .inl (p1 + (3 : Int32)), .inr (.inr (11 + 1))]) (wc := (kw_S x)) (w' := (kw_SC x c)) (r := (some (.inl (fn5_spells x p1 (p1 + (3 : Int32)) 11)), (kw_S x), 0, 0)) ?_ ?_ ?_ ?_ ?_ ?_ ?_ ?_ ?_ ?_
  · exact ks_SC_S_0_o x c
  · rfl
  · rfl
  · exact ks_SC_S_0_s x c
  · exact ⟨x, p1, (p1 + (3 : Int32)), 11, rfl, rfl, hp.1⟩
  · exact fe5_spells x p1 (p1 + (3 : Int32)) 11
  · exact kwl_S x
  · rfl
  · exact ks_SC_S_0_m x c x
  refine am_if (c := (fn5_spells x p1 (p1 + (3 : Int32)) 11) = 0) (fun h1 => ?_) (fun h1 => ?_)
  · have q1 := hp.2.1 h1
    refine am_cy (pre := pr5_sign) (f := fm5_sign) (a' := [.inr (.inl 0), .inl p1]) (wc := (kw_S x)) (w' := (kw_SC x c)) (r := (some (.inl (fn5_sign x p1)), (kw_S x), 0, 0)) ?_ ?_ ?_ ?_ ?_ ?_ ?_ ?_ ?_ ?_
    · exact ks_SC_S_0_o x c
    · rfl
    · rfl
    · exact ks_SC_S_0_s x c
    · exact ⟨x, p1, rfl, rfl, q1.1⟩
    · exact fe5_sign x p1
    · exact kwl_S x
    · rfl
    · exact ks_SC_S_0_m x c x
    refine am_if (c := (fn5_sign x p1) = (45 : Int32)) (fun h2 => ?_) (fun h2 => ?_)
    · have q2 := q1.2.1 h2
      refine am_cy (pre := pr3_ifTwoFollow) (f := fm3_ifTwoFollow) (a' := [.inr (.inl 0), .inl p1]) (wc := (kw_S x)) (w' := (kw_SC x c)) (r := (some (.inl (fn3_ifTwoFollow x p1)), (kw_S x), 0, 0)) ?_ ?_ ?_ ?_ ?_ ?_ ?_ ?_ ?_ ?_
      · exact ks_SC_S_0_o x c
      · rfl
      · rfl
      · exact ks_SC_S_0_s x c
      · exact ⟨x, p1, rfl, rfl, q2⟩
      · exact fe3_ifTwoFollow x p1
      · exact kwl_S x
      · rfl
      · exact ks_SC_S_0_m x c x
      have e : fn3_inComment x c p1 = ((fn3_ifTwoFollow x p1), c) := by
        rw [fq3_inComment]
        rw [if_pos h1, if_pos h2]
      rw [e] <;> rfl
    · have e : fn3_inComment x c p1 = ((1 : Int32), c) := by
        rw [fq3_inComment]
        rw [if_pos h1, if_neg h2]
      rw [e] <;> rfl
  · have q1 := hp.2.2 h1
    refine am_cy (pre := pr1_enter) (f := fm1_enter) (a' := [.inr (.inl 0), .inl (0 : Int32)]) (wc := (kw_C c)) (w' := (kw_SC x (fn1_enter c (0 : Int32)))) (r := (none, (kw_C (fn1_enter c (0 : Int32))), 0, 0)) ?_ ?_ ?_ ?_ ?_ ?_ ?_ ?_ ?_ ?_
    · exact ks_SC_C_1_o x c
    · rfl
    · rfl
    · exact ks_SC_C_1_s x c
    · exact ⟨c, (0 : Int32), rfl, rfl, q1⟩
    · exact fe1_enter c (0 : Int32)
    · exact kwl_C (fn1_enter c (0 : Int32))
    · rfl
    · exact ks_SC_C_1_m x c (fn1_enter c (0 : Int32))
    have e : fn3_inComment x c p1 = ((3 : Int32), (fn1_enter c (0 : Int32))) := by
      rw [fq3_inComment]
      rw [if_neg h1]
    rw [e] <;> rfl
abbrev pr3_inComment : List am_V → List am_C → Prop := fun a w => ∃ (x : qt5) (c : qt1) (p1 : Int32), a = [.inr (.inl 0), .inl p1, .inr (.inl 8)] ∧ w = (kw_SC x c) ∧ wp3_inComment x c p1
noncomputable def fm3_inComment : am_M := fun a w => (fun (z : Int32 × qt1) => (some (.inl (z.1)), (kw_SC (qs5 w 0) (z.2)), 0, 0)) (fn3_inComment (qs5 w 0) (qs1 w 8) (am_i (am_an a 1)))
theorem fe3_inComment (x : qt5) (c : qt1) (p1 : Int32) : fm3_inComment [.inr (.inl 0), .inl p1, .inr (.inl 8)] (kw_SC x c) = (some (.inl ((fn3_inComment x c p1).1)), (kw_SC x ((fn3_inComment x c p1).2)), 0, 0) := rfl
set_option maxRecDepth 100000 in
set_option maxHeartbeats 4000000 in
theorem rn3_inComment : ∀ (a : List am_V) (w : List am_C), pr3_inComment a w → ∃ nq, am_ev (am_mk kb3_inComment (fm3_inComment a w).2.2.1 (fm3_inComment a w).2.2.2 w.length) [] nq (0, am_L0 a 3, [], w, 0, 0) = some ((fm3_inComment a w).1, (fm3_inComment a w).2.1) := by
  rintro a w ⟨x, c, p1, rfl, rfl, hp⟩
  rw [fe3_inComment x c p1]
  exact am_lf_ev (re3_inComment x c p1 hp)
theorem rl3_inComment : ∀ (a : List am_V) (w : List am_C), pr3_inComment a w → a.length ≤ 3 := by
  rintro a w ⟨x, c, p1, rfl, rfl, hp⟩
  exact Nat.le_of_ble_eq_true rfl
set_option maxRecDepth 100000 in
set_option maxHeartbeats 4000000 in
theorem km3_inComment {l : Launch} {E : (Nat → Prop) → State → Prop} {D : va_G} {ou : Nat → Nat} {ca : Nat → ClassId} (hE : hg_E E ou) : hg_Met l E D ou ca hy3_inComment prog_5_method_20_code 3 (some .int) 5 pr3_inComment fm3_inComment := by
  refine am_met (B := kb3_inComment) (cuts := []) (nt := 5) (by decide +kernel) rfl rfl (hg_tys_ok ca) ?_ (by decide) rl3_inComment ?_ rn3_inComment
  · exact fun t ht => List.mem_cons_of_mem _ (hg_arr t ht)
  · intro a w hp ad p e R s m args below meth c hR X hEs hnm
    have hR1 : 5 ≤ R.frames ∧ 200 ≤ R.locals := by rw [hR]; exact ⟨Nat.le_refl _, Nat.le_refl _⟩
    have hN := hE.2.1 _ _ hEs
    have hc : ∀ q ∈ kc3_inComment, am_LK s hn_R3 args ou q.1 q.2 := am_allc (hg_lk hN.2 11 rfl) (am_all0)
    refine ⟨kd3_inComment_ok, fun index ci fi mode hq => kf3_ok X.2.2.2.2.1 hN.1 (index, ci, fi, mode) (am_as_mem hq), fun index ci fs hq => (am_no hq).elim, fun x v hq => hc (x, v) (am_as_mem hq), ?_, fun o t n f hq => (am_no hq).elim, rfl, rfl, by rw [hR]; exact Nat.le_refl _, by rw [hR]; exact Nat.le_refl _⟩
    intro pc sel n0 pre0 f0 hq
    have hz : ∀ q ∈ ki3_inComment, am_CK p l e R s m args below meth c D hn_cl (va_A (am_w ad ou ca w) s.heap.size) ou ca 3 q.1 q.2.2.1 q.2.2.2.1 q.2.2.2.2 := by
      refine am_allc (am_ck_V (n := 3) X hEs hE.1 (km5_spells hE) (hg_good (gw_mem 363 (by decide +kernel))) rfl (List.mem_cons_of_mem _ (gw_mem 73 (by decide +kernel))) (List.mem_cons_of_mem _ (gw_mem 360 (by decide +kernel))) (List.mem_cons_of_mem _ (gw_mem 361 (by decide +kernel))) (List.mem_cons_of_mem _ (gw_mem 362 (by decide +kernel))) pa5_spells (by decide +kernel) ⟨Nat.le_trans (by decide) hR1.1, Nat.le_trans (by decide) hR1.2⟩ (kd3_inComment_ok (7, .invokevirtual 48, 3) (List.mem_of_getElem? (i := 6) rfl))) (am_allc (am_ck_V (n := 1) X hEs hE.1 (km1_enter hE) (hg_good (gw_mem 334 (by decide +kernel))) rfl (List.mem_cons_of_mem _ (gw_mem 74 (by decide +kernel))) (List.mem_cons_of_mem _ (gw_mem 413 (by decide +kernel))) (List.mem_cons_of_mem _ (gw_mem 332 (by decide +kernel))) (List.mem_cons_of_mem _ (gw_mem 333 (by decide +kernel))) pa1_enter (by decide +kernel) ⟨Nat.le_trans (by decide) hR1.1, Nat.le_trans (by decide) hR1.2⟩ (kd3_inComment_ok (15, .invokevirtual 52, 3) (List.mem_of_getElem? (i := 10) rfl))) (am_allc (am_ck_V (n := 1) X hEs hE.1 (km5_sign hE) (hg_good (gw_mem 352 (by decide +kernel))) rfl (List.mem_cons_of_mem _ (gw_mem 73 (by decide +kernel))) (List.mem_cons_of_mem _ (gw_mem 349 (by decide +kernel))) (List.mem_cons_of_mem _ (gw_mem 350 (by decide +kernel))) (List.mem_cons_of_mem _ (gw_mem 351 (by decide +kernel))) pa5_sign (by decide +kernel) ⟨Nat.le_trans (by decide) hR1.1, Nat.le_trans (by decide) hR1.2⟩ (kd3_inComment_ok (22, .invokevirtual 36, 3) (List.mem_of_getElem? (i := 15) rfl))) (am_allc (am_ck_S (n := 2) X hEs hE.1 (km3_ifTwoFollow hE) (hg_good (gw_mem 483 (by decide +kernel))) rfl (List.mem_cons_of_mem _ (gw_mem 82 (by decide +kernel))) (List.mem_cons_of_mem _ (gw_mem 481 (by decide +kernel))) (List.mem_cons_of_mem _ (gw_mem 482 (by decide +kernel))) (by decide +kernel) ⟨Nat.le_trans (by decide) hR1.1, Nat.le_trans (by decide) hR1.2⟩ (kd3_inComment_ok (32, .invokestatic 140, 3) (List.mem_of_getElem? (i := 20) rfl))) (am_all0))))
    exact hz _ (am_as_mem hq)
noncomputable def ki3_read : List (Nat × Option (List Nat) × Nat × (List am_V → List am_C → Prop) × am_M) := [(51, none, 3, pr3_inText, fm3_inText), (58, none, 3, pr3_inTag, fm3_inTag), (65, none, 3, pr3_inValue, fm3_inValue), (72, none, 3, pr3_inTitle, fm3_inTitle), (79, none, 3, pr3_inComment, fm3_inComment), (86, none, 3, pr3_inCode, fm3_inCode)]
noncomputable def kb3_read : am_B := (kd3_read, am_as kf3, hn_ty, fun _ => none, fun _ => none, am_as ki3_read, fun _ => none, 5, 3, (some .int))
noncomputable def fn3_read (x : qt5) (c : qt1) (p1 : Int32) : Int32 × qt1 := Classical.choose (⟨_, rfl⟩ : ∃ z : Int32 × qt1, z = (if (qg1_name c) = (0 : Int32) then ((fn3_inText x c p1).1, (fn3_inText x c p1).2) else (if (qg1_name c) = (1 : Int32) then ((fn3_inTag x c p1).1, (fn3_inTag x c p1).2) else (if (qg1_name c) = (2 : Int32) then ((fn3_inValue x c p1).1, (fn3_inValue x c p1).2) else (if (qg1_name c) = (3 : Int32) then ((fn3_inCode x c p1).1, (fn3_inCode x c p1).2) else (if (qg1_name c) = (4 : Int32) then ((fn3_inCode x c p1).1, (fn3_inCode x c p1).2) else (if (qg1_name c) = (5 : Int32) then ((fn3_inTitle x c p1).1, (fn3_inTitle x c p1).2) else (if (qg1_name c) = (6 : Int32) then ((fn3_inComment x c p1).1, (fn3_inComment x c p1).2) else ((fn3_inCode x c p1).1, (fn3_inCode x c p1).2)))))))))
theorem fq3_read (x : qt5) (c : qt1) (p1 : Int32) : fn3_read x c p1 = (if (qg1_name c) = (0 : Int32) then ((fn3_inText x c p1).1, (fn3_inText x c p1).2) else (if (qg1_name c) = (1 : Int32) then ((fn3_inTag x c p1).1, (fn3_inTag x c p1).2) else (if (qg1_name c) = (2 : Int32) then ((fn3_inValue x c p1).1, (fn3_inValue x c p1).2) else (if (qg1_name c) = (3 : Int32) then ((fn3_inCode x c p1).1, (fn3_inCode x c p1).2) else (if (qg1_name c) = (4 : Int32) then ((fn3_inCode x c p1).1, (fn3_inCode x c p1).2) else (if (qg1_name c) = (5 : Int32) then ((fn3_inTitle x c p1).1, (fn3_inTitle x c p1).2) else (if (qg1_name c) = (6 : Int32) then ((fn3_inComment x c p1).1, (fn3_inComment x c p1).2) else ((fn3_inCode x c p1).1, (fn3_inCode x c p1).2)))))))) := Classical.choose_spec (⟨_, rfl⟩ : ∃ z : Int32 × qt1, z = (if (qg1_name c) = (0 : Int32) then ((fn3_inText x c p1).1, (fn3_inText x c p1).2) else (if (qg1_name c) = (1 : Int32) then ((fn3_inTag x c p1).1, (fn3_inTag x c p1).2) else (if (qg1_name c) = (2 : Int32) then ((fn3_inValue x c p1).1, (fn3_inValue x c p1).2) else (if (qg1_name c) = (3 : Int32) then ((fn3_inCode x c p1).1, (fn3_inCode x c p1).2) else (if (qg1_name c) = (4 : Int32) then ((fn3_inCode x c p1).1, (fn3_inCode x c p1).2) else (if (qg1_name c) = (5 : Int32) then ((fn3_inTitle x c p1).1, (fn3_inTitle x c p1).2) else (if (qg1_name c) = (6 : Int32) then ((fn3_inComment x c p1).1, (fn3_inComment x c p1).2) else ((fn3_inCode x c p1).1, (fn3_inCode x c p1).2)))))))))
def wp3_read (x : qt5) (c : qt1) (p1 : Int32) : Prop := (((qg1_name c) = (0 : Int32) → (wp3_inText x c p1)) ∧ (¬ (qg1_name c) = (0 : Int32) → (((qg1_name c) = (1 : Int32) → (wp3_inTag x c p1)) ∧ (¬ (qg1_name c) = (1 : Int32) → (((qg1_name c) = (2 : Int32) → (wp3_inValue x c p1)) ∧ (¬ (qg1_name c) = (2 : Int32) → (((qg1_name c) = (3 : Int32) → (wp3_inCode x c p1)) ∧ (¬ (qg1_name c) = (3 : Int32) → (((qg1_name c) = (4 : Int32) → (wp3_inCode x c p1)) ∧ (¬ (qg1_name c) = (4 : Int32) → (((qg1_name c) = (5 : Int32) → (wp3_inTitle x c p1)) ∧ (¬ (qg1_name c) = (5 : Int32) → (((qg1_name c) = (6 : Int32) → (wp3_inComment x c p1)) ∧ (¬ (qg1_name c) = (6 : Int32) → (wp3_inCode x c p1)))))))))))))))
set_option maxRecDepth 100000 in
set_option maxHeartbeats 4000000 in
theorem re3_read (x : qt5) (c : qt1) (p1 : Int32) (hp : wp3_read x c p1) : am_lf (am_mk kb3_read 0 0 9) [] (0, am_L0 [.inr (.inl 0), .inl p1, .inr (.inl 8)] 3, [], (kw_SC x c), 0, 0) = some (some (.inl ((fn3_read x c p1).1)), (kw_SC x ((fn3_read x c p1).2))) := by
  unfold wp3_read at hp
  refine am_lf_eq ?_
  generalize am_lf (am_mk kb3_read 0 0 9) [] = kt
  refine am_if (c := (qg1_name c) = (0 : Int32)) (fun h1 => ?_) (fun h1 => ?_)
  · have q1 := hp.1 h1
    refine am_cx (pre := pr3_inText) (f := fm3_inText) (r := (some (.inl ((fn3_inText x c p1).1)), (kw_SC x ((fn3_inText x c p1).2)), 0, 0)) ?_ ?_ ?_ ?_
    · exact ⟨x, c, p1, rfl, rfl, q1⟩
    · exact fe3_inText x c p1
    · exact rfl
    have e : fn3_read x c p1 = ((fn3_inText x c p1).1, (fn3_inText x c p1).2) := by
      rw [fq3_read]
      rw [if_pos h1]
    rw [e] <;> rfl
  · have q1 := hp.2 h1
    refine am_if (c := (qg1_name c) = (1 : Int32)) (fun h2 => ?_) (fun h2 => ?_)
    · have q2 := q1.1 h2
      refine am_cx (pre := pr3_inTag) (f := fm3_inTag) (r := (some (.inl ((fn3_inTag x c p1).1)), (kw_SC x ((fn3_inTag x c p1).2)), 0, 0)) ?_ ?_ ?_ ?_
      · exact ⟨x, c, p1, rfl, rfl, q2⟩
      · exact fe3_inTag x c p1
      · exact rfl
      have e : fn3_read x c p1 = ((fn3_inTag x c p1).1, (fn3_inTag x c p1).2) := by
        rw [fq3_read]
        rw [if_neg h1, if_pos h2]
      rw [e] <;> rfl
    · have q2 := q1.2 h2
      refine am_if (c := (qg1_name c) = (2 : Int32)) (fun h3 => ?_) (fun h3 => ?_)
      · have q3 := q2.1 h3
        refine am_cx (pre := pr3_inValue) (f := fm3_inValue) (r := (some (.inl ((fn3_inValue x c p1).1)), (kw_SC x ((fn3_inValue x c p1).2)), 0, 0)) ?_ ?_ ?_ ?_
        · exact ⟨x, c, p1, rfl, rfl, q3⟩
        · exact fe3_inValue x c p1
        · exact rfl
        have e : fn3_read x c p1 = ((fn3_inValue x c p1).1, (fn3_inValue x c p1).2) := by
          rw [fq3_read]
          rw [if_neg h1, if_neg h2, if_pos h3]
        rw [e] <;> rfl
      · have q3 := q2.2 h3
        refine am_if (c := (qg1_name c) = (3 : Int32)) (fun h4 => ?_) (fun h4 => ?_)
        · have q4 := q3.1 h4
          refine am_cx (pre := pr3_inCode) (f := fm3_inCode) (r := (some (.inl ((fn3_inCode x c p1).1)), (kw_SC x ((fn3_inCode x c p1).2)), 0, 0)) ?_ ?_ ?_ ?_
          · exact ⟨x, c, p1, rfl, rfl, q4⟩
          · exact fe3_inCode x c p1
          · exact rfl
          have e : fn3_read x c p1 = ((fn3_inCode x c p1).1, (fn3_inCode x c p1).2) := by
            rw [fq3_read]
            rw [if_neg h1, if_neg h2, if_neg h3, if_pos h4]
          rw [e] <;> rfl
        · have q4 := q3.2 h4
          refine am_if (c := (qg1_name c) = (4 : Int32)) (fun h5 => ?_) (fun h5 => ?_)
          · have q5 := q4.1 h5
            refine am_cx (pre := pr3_inCode) (f := fm3_inCode) (r := (some (.inl ((fn3_inCode x c p1).1)), (kw_SC x ((fn3_inCode x c p1).2)), 0, 0)) ?_ ?_ ?_ ?_
            · exact ⟨x, c, p1, rfl, rfl, q5⟩
            · exact fe3_inCode x c p1
            · exact rfl
            have e : fn3_read x c p1 = ((fn3_inCode x c p1).1, (fn3_inCode x c p1).2) := by
              rw [fq3_read]
              rw [if_neg h1, if_neg h2, if_neg h3, if_neg h4, if_pos h5]
            rw [e] <;> rfl
          · have q5 := q4.2 h5
            refine am_if (c := (qg1_name c) = (5 : Int32)) (fun h6 => ?_) (fun h6 => ?_)
            · have q6 := q5.1 h6
              refine am_cx (pre := pr3_inTitle) (f := fm3_inTitle) (r := (some (.inl ((fn3_inTitle x c p1).1)), (kw_SC x ((fn3_inTitle x c p1).2)), 0, 0)) ?_ ?_ ?_ ?_
              · exact ⟨x, c, p1, rfl, rfl, q6⟩
              · exact fe3_inTitle x c p1
              · exact rfl
              have e : fn3_read x c p1 = ((fn3_inTitle x c p1).1, (fn3_inTitle x c p1).2) := by
                rw [fq3_read]
                rw [if_neg h1, if_neg h2, if_neg h3, if_neg h4, if_neg h5, if_pos h6]
              rw [e] <;> rfl
            · have q6 := q5.2 h6
              refine am_if (c := (qg1_name c) = (6 : Int32)) (fun h7 => ?_) (fun h7 => ?_)
              · have q7 := q6.1 h7
                refine am_cx (pre := pr3_inComment) (f := fm3_inComment) (r := (some (.inl ((fn3_inComment x c p1).1)), (kw_SC x ((fn3_inComment x c p1).2)), 0, 0)) ?_ ?_ ?_ ?_
                · exact ⟨x, c, p1, rfl, rfl, q7⟩
                · exact fe3_inComment x c p1
                · exact rfl
                have e : fn3_read x c p1 = ((fn3_inComment x c p1).1, (fn3_inComment x c p1).2) := by
                  rw [fq3_read]
                  rw [if_neg h1, if_neg h2, if_neg h3, if_neg h4, if_neg h5, if_neg h6, if_pos h7]
                rw [e] <;> rfl
              · have q7 := q6.2 h7
                refine am_cx (pre := pr3_inCode) (f := fm3_inCode) (r := (some (.inl ((fn3_inCode x c p1).1)), (kw_SC x ((fn3_inCode x c p1).2)), 0, 0)) ?_ ?_ ?_ ?_
                · exact ⟨x, c, p1, rfl, rfl, q7⟩
                · exact fe3_inCode x c p1
                · exact rfl
                have e : fn3_read x c p1 = ((fn3_inCode x c p1).1, (fn3_inCode x c p1).2) := by
                  rw [fq3_read]
                  rw [if_neg h1, if_neg h2, if_neg h3, if_neg h4, if_neg h5, if_neg h6, if_neg h7]
                rw [e] <;> rfl
abbrev pr3_read : List am_V → List am_C → Prop := fun a w => ∃ (x : qt5) (c : qt1) (p1 : Int32), a = [.inr (.inl 0), .inl p1, .inr (.inl 8)] ∧ w = (kw_SC x c) ∧ wp3_read x c p1
noncomputable def fm3_read : am_M := fun a w => (fun (z : Int32 × qt1) => (some (.inl (z.1)), (kw_SC (qs5 w 0) (z.2)), 0, 0)) (fn3_read (qs5 w 0) (qs1 w 8) (am_i (am_an a 1)))
theorem fe3_read (x : qt5) (c : qt1) (p1 : Int32) : fm3_read [.inr (.inl 0), .inl p1, .inr (.inl 8)] (kw_SC x c) = (some (.inl ((fn3_read x c p1).1)), (kw_SC x ((fn3_read x c p1).2)), 0, 0) := rfl
set_option maxRecDepth 100000 in
set_option maxHeartbeats 4000000 in
theorem rn3_read : ∀ (a : List am_V) (w : List am_C), pr3_read a w → ∃ nq, am_ev (am_mk kb3_read (fm3_read a w).2.2.1 (fm3_read a w).2.2.2 w.length) [] nq (0, am_L0 a 3, [], w, 0, 0) = some ((fm3_read a w).1, (fm3_read a w).2.1) := by
  rintro a w ⟨x, c, p1, rfl, rfl, hp⟩
  rw [fe3_read x c p1]
  exact am_lf_ev (re3_read x c p1 hp)
theorem rl3_read : ∀ (a : List am_V) (w : List am_C), pr3_read a w → a.length ≤ 3 := by
  rintro a w ⟨x, c, p1, rfl, rfl, hp⟩
  exact Nat.le_of_ble_eq_true rfl
set_option maxRecDepth 100000 in
set_option maxHeartbeats 4000000 in
theorem km3_read {l : Launch} {E : (Nat → Prop) → State → Prop} {D : va_G} {ou : Nat → Nat} {ca : Nat → ClassId} (hE : hg_E E ou) : hg_Met l E D ou ca hy3_read prog_5_method_2_code 3 (some .int) 8 pr3_read fm3_read := by
  refine am_met (B := kb3_read) (cuts := []) (nt := 5) (by decide +kernel) rfl rfl (hg_tys_ok ca) ?_ (by decide) rl3_read ?_ rn3_read
  · exact fun t ht => List.mem_cons_of_mem _ (hg_arr t ht)
  · intro a w hp ad p e R s m args below meth c hR X hEs hnm
    have hR1 : 8 ≤ R.frames ∧ 320 ≤ R.locals := by rw [hR]; exact ⟨Nat.le_refl _, Nat.le_refl _⟩
    have hN := hE.2.1 _ _ hEs
    refine ⟨kd3_read_ok, fun index ci fi mode hq => kf3_ok X.2.2.2.2.1 hN.1 (index, ci, fi, mode) (am_as_mem hq), fun index ci fs hq => (am_no hq).elim, fun x v hq => (am_no hq).elim, ?_, fun o t n f hq => (am_no hq).elim, rfl, rfl, by rw [hR]; exact Nat.le_refl _, by rw [hR]; exact Nat.le_refl _⟩
    intro pc sel n0 pre0 f0 hq
    have hz : ∀ q ∈ ki3_read, am_CK p l e R s m args below meth c D hn_cl (va_A (am_w ad ou ca w) s.heap.size) ou ca 3 q.1 q.2.2.1 q.2.2.2.1 q.2.2.2.2 := by
      refine am_allc (am_ck_S (n := 3) X hEs hE.1 (km3_inText hE) (hg_good (gw_mem 348 (by decide +kernel))) rfl (List.mem_cons_of_mem _ (gw_mem 82 (by decide +kernel))) (List.mem_cons_of_mem _ (gw_mem 346 (by decide +kernel))) (List.mem_cons_of_mem _ (gw_mem 347 (by decide +kernel))) (by decide +kernel) ⟨Nat.le_trans (by decide) hR1.1, Nat.le_trans (by decide) hR1.2⟩ (kd3_read_ok (51, .invokestatic 15, 3) (List.mem_of_getElem? (i := 6) rfl))) (am_allc (am_ck_S (n := 3) X hEs hE.1 (km3_inTag hE) (hg_good (gw_mem 443 (by decide +kernel))) rfl (List.mem_cons_of_mem _ (gw_mem 82 (by decide +kernel))) (List.mem_cons_of_mem _ (gw_mem 441 (by decide +kernel))) (List.mem_cons_of_mem _ (gw_mem 442 (by decide +kernel))) (by decide +kernel) ⟨Nat.le_trans (by decide) hR1.1, Nat.le_trans (by decide) hR1.2⟩ (kd3_read_ok (58, .invokestatic 21, 3) (List.mem_of_getElem? (i := 11) rfl))) (am_allc (am_ck_S (n := 3) X hEs hE.1 (km3_inValue hE) (hg_good (gw_mem 477 (by decide +kernel))) rfl (List.mem_cons_of_mem _ (gw_mem 82 (by decide +kernel))) (List.mem_cons_of_mem _ (gw_mem 475 (by decide +kernel))) (List.mem_cons_of_mem _ (gw_mem 476 (by decide +kernel))) (by decide +kernel) ⟨Nat.le_trans (by decide) hR1.1, Nat.le_trans (by decide) hR1.2⟩ (kd3_read_ok (65, .invokestatic 24, 3) (List.mem_of_getElem? (i := 16) rfl))) (am_allc (am_ck_S (n := 3) X hEs hE.1 (km3_inTitle hE) (hg_good (gw_mem 508 (by decide +kernel))) rfl (List.mem_cons_of_mem _ (gw_mem 82 (by decide +kernel))) (List.mem_cons_of_mem _ (gw_mem 506 (by decide +kernel))) (List.mem_cons_of_mem _ (gw_mem 507 (by decide +kernel))) (by decide +kernel) ⟨Nat.le_trans (by decide) hR1.1, Nat.le_trans (by decide) hR1.2⟩ (kd3_read_ok (72, .invokestatic 27, 3) (List.mem_of_getElem? (i := 21) rfl))) (am_allc (am_ck_S (n := 3) X hEs hE.1 (km3_inComment hE) (hg_good (gw_mem 512 (by decide +kernel))) rfl (List.mem_cons_of_mem _ (gw_mem 82 (by decide +kernel))) (List.mem_cons_of_mem _ (gw_mem 510 (by decide +kernel))) (List.mem_cons_of_mem _ (gw_mem 511 (by decide +kernel))) (by decide +kernel) ⟨Nat.le_trans (by decide) hR1.1, Nat.le_trans (by decide) hR1.2⟩ (kd3_read_ok (79, .invokestatic 30, 3) (List.mem_of_getElem? (i := 26) rfl))) (am_allc (am_ck_S (n := 3) X hEs hE.1 (km3_inCode hE) (hg_good (gw_mem 486 (by decide +kernel))) rfl (List.mem_cons_of_mem _ (gw_mem 82 (by decide +kernel))) (List.mem_cons_of_mem _ (gw_mem 484 (by decide +kernel))) (List.mem_cons_of_mem _ (gw_mem 485 (by decide +kernel))) (by decide +kernel) ⟨Nat.le_trans (by decide) hR1.1, Nat.le_trans (by decide) hR1.2⟩ (kd3_read_ok (86, .invokestatic 33, 3) (List.mem_of_getElem? (i := 31) rfl))) (am_all0))))))
    exact hz _ (am_as_mem hq)
noncomputable def ki0_readHole : List (Nat × Option (List Nat) × Nat × (List am_V → List am_C → Prop) × am_M) := [(4, some [13], 1, pr1_code, fm1_code), (31, some [5, 6, 7, 8, 9, 10, 11, 12], 3, pr5_noteCode, fm5_noteCode)]
noncomputable def kb0_readHole : am_B := (kd0_readHole, am_as kf0, hn_ty, fun _ => none, fun _ => none, am_as ki0_readHole, fun _ => none, 5, 3, (some .boolean))
noncomputable def fn0_readHole_c54 (y : qt0) (x : qt5) (c : qt1) (v2 : Int32) : Int32 × qt0 × qt5 × qt1 := (if v2 = (2 : Int32) then ((1 : Int32), y, x, (qu1_part c (1 : Int32))) else ((1 : Int32), y, x, c))
def wp0_readHole_c54 (y : qt0) (x : qt5) (c : qt1) (v2 : Int32) : Prop := True
set_option maxRecDepth 100000 in
set_option maxHeartbeats 4000000 in
theorem rc0_readHole_54 (y : qt0) (x : qt5) (c : qt1) (v2 : Int32) (j1 : Option am_V) (g1 : am_loO 14 j1 = true) (hp : wp0_readHole_c54 y x c v2) : am_lf (am_mk kb0_readHole 0 0 14) [34, 44, 54] (54, [some (.inr (.inl 0)), j1, some (.inl v2)], [], (kw_P y x c), 0, 0) = some (some (.inl ((fn0_readHole_c54 y x c v2).1)), (kw_P ((fn0_readHole_c54 y x c v2).2.1) ((fn0_readHole_c54 y x c v2).2.2.1) ((fn0_readHole_c54 y x c v2).2.2.2))) := by
  unfold wp0_readHole_c54 at hp
  refine am_lf_eq ?_
  generalize am_lf (am_mk kb0_readHole 0 0 14) [34, 44, 54] = kt
  refine am_if (c := v2 = (2 : Int32)) (fun h1 => ?_) (fun h1 => ?_)
  · refine am_sp (w' := (kw_P y x (qu1_part c (1 : Int32)))) (kp_P_2_part y x c (1 : Int32)) ?_
    have e : fn0_readHole_c54 y x c v2 = ((1 : Int32), y, x, (qu1_part c (1 : Int32))) := by
      rw [fn0_readHole_c54]
      rw [if_pos h1]
    rw [e] <;> rfl
  · have e : fn0_readHole_c54 y x c v2 = ((1 : Int32), y, x, c) := by
      rw [fn0_readHole_c54]
      rw [if_neg h1]
    rw [e] <;> rfl
noncomputable def fn0_readHole_c44 (y : qt0) (x : qt5) (c : qt1) (v2 : Int32) : Int32 × qt0 × qt5 × qt1 := (fn0_readHole_c54 (qu0_holeCount y ((qg0_holeCount y) + (1 : Int32))) x c v2)
def wp0_readHole_c44 (y : qt0) (x : qt5) (c : qt1) (v2 : Int32) : Prop := (wp0_readHole_c54 (qu0_holeCount y ((qg0_holeCount y) + (1 : Int32))) x c v2)
set_option maxRecDepth 100000 in
set_option maxHeartbeats 4000000 in
theorem rc0_readHole_44 (y : qt0) (x : qt5) (c : qt1) (v2 : Int32) (j1 : Option am_V) (g1 : am_loO 14 j1 = true) (hp : wp0_readHole_c44 y x c v2) : am_lf (am_mk kb0_readHole 0 0 14) [34, 44, 54] (44, [some (.inr (.inl 0)), j1, some (.inl v2)], [], (kw_P y x c), 0, 0) = some (some (.inl ((fn0_readHole_c44 y x c v2).1)), (kw_P ((fn0_readHole_c44 y x c v2).2.1) ((fn0_readHole_c44 y x c v2).2.2.1) ((fn0_readHole_c44 y x c v2).2.2.2))) := by
  unfold wp0_readHole_c44 at hp
  have i54 := @rc0_readHole_54
  refine am_lf_eq ?_
  generalize am_lf (am_mk kb0_readHole 0 0 14) [34, 44, 54] = kt at i54 ⊢
  refine am_sp (w' := (kw_P (qu0_holeCount y ((qg0_holeCount y) + (1 : Int32))) x c)) (kp_P_0_holeCount y x c ((qg0_holeCount y) + (1 : Int32))) ?_
  have e : fn0_readHole_c44 y x c v2 = fn0_readHole_c54 (qu0_holeCount y ((qg0_holeCount y) + (1 : Int32))) x c v2 := by
    rw [fn0_readHole_c44]
  rw [e]
  exact i54 (qu0_holeCount y ((qg0_holeCount y) + (1 : Int32))) x c v2 _ g1 hp
noncomputable def fn0_readHole_c34 (y : qt0) (x : qt5) (c : qt1) (v2 : Int32) : Int32 × qt0 × qt5 × qt1 := (fn0_readHole_c44 (qa0_holeCodes y (((qg0_holeCount y)).toNatClampNeg) v2) x c v2)
def wp0_readHole_c34 (y : qt0) (x : qt5) (c : qt1) (v2 : Int32) : Prop := (am_inb (qg0_holeCount y) 240 = true ∧ (wp0_readHole_c44 (qa0_holeCodes y (((qg0_holeCount y)).toNatClampNeg) v2) x c v2))
set_option maxRecDepth 100000 in
set_option maxHeartbeats 4000000 in
theorem rc0_readHole_34 (y : qt0) (x : qt5) (c : qt1) (v2 : Int32) (j1 : Option am_V) (g1 : am_loO 14 j1 = true) (hp : wp0_readHole_c34 y x c v2) : am_lf (am_mk kb0_readHole 0 0 14) [34, 44, 54] (34, [some (.inr (.inl 0)), j1, some (.inl v2)], [], (kw_P y x c), 0, 0) = some (some (.inl ((fn0_readHole_c34 y x c v2).1)), (kw_P ((fn0_readHole_c34 y x c v2).2.1) ((fn0_readHole_c34 y x c v2).2.2.1) ((fn0_readHole_c34 y x c v2).2.2.2))) := by
  unfold wp0_readHole_c34 at hp
  have i44 := @rc0_readHole_44
  refine am_lf_eq ?_
  generalize am_lf (am_mk kb0_readHole 0 0 14) [34, 44, 54] = kt at i44 ⊢
  refine am_ci (c := am_inb (qg0_holeCount y) 240 = true) hp.1 ?_
  refine am_sp (w' := (kw_P (qa0_holeCodes y (((qg0_holeCount y)).toNatClampNeg) v2) x c)) (kp_P_0_holeCodes y x c (((qg0_holeCount y)).toNatClampNeg) v2) ?_
  have e : fn0_readHole_c34 y x c v2 = fn0_readHole_c44 (qa0_holeCodes y (((qg0_holeCount y)).toNatClampNeg) v2) x c v2 := by
    rw [fn0_readHole_c34]
  rw [e]
  exact i44 (qa0_holeCodes y (((qg0_holeCount y)).toNatClampNeg) v2) x c v2 _ g1 hp.2
noncomputable def fn0_readHole (y : qt0) (x : qt5) (c : qt1) (p0 : Int32) : Int32 × qt0 × qt5 × qt1 := Classical.choose (⟨_, rfl⟩ : ∃ z : Int32 × qt0 × qt5 × qt1, z = (if (fn1_code c) = (-1 : Int32) then ((0 : Int32), y, x, c) else (if (qg0_holeCount y) < (240 : Int32) then (fn0_readHole_c34 y (fn5_noteCode x p0 (fn1_code c)) c (fn1_code c)) else ((0 : Int32), y, x, c))))
theorem fq0_readHole (y : qt0) (x : qt5) (c : qt1) (p0 : Int32) : fn0_readHole y x c p0 = (if (fn1_code c) = (-1 : Int32) then ((0 : Int32), y, x, c) else (if (qg0_holeCount y) < (240 : Int32) then (fn0_readHole_c34 y (fn5_noteCode x p0 (fn1_code c)) c (fn1_code c)) else ((0 : Int32), y, x, c))) := Classical.choose_spec (⟨_, rfl⟩ : ∃ z : Int32 × qt0 × qt5 × qt1, z = (if (fn1_code c) = (-1 : Int32) then ((0 : Int32), y, x, c) else (if (qg0_holeCount y) < (240 : Int32) then (fn0_readHole_c34 y (fn5_noteCode x p0 (fn1_code c)) c (fn1_code c)) else ((0 : Int32), y, x, c))))
def wp0_readHole (y : qt0) (x : qt5) (c : qt1) (p0 : Int32) : Prop := ((wp1_code c) ∧ (((fn1_code c) = (-1 : Int32) → True) ∧ (¬ (fn1_code c) = (-1 : Int32) → (((qg0_holeCount y) < (240 : Int32) → ((wp5_noteCode x p0 (fn1_code c)) ∧ (wp0_readHole_c34 y (fn5_noteCode x p0 (fn1_code c)) c (fn1_code c)))) ∧ (¬ (qg0_holeCount y) < (240 : Int32) → True)))))
set_option maxRecDepth 100000 in
set_option maxHeartbeats 4000000 in
theorem re0_readHole (y : qt0) (x : qt5) (c : qt1) (p0 : Int32) (hp : wp0_readHole y x c p0) : am_lf (am_mk kb0_readHole 0 0 14) [34, 44, 54] (0, am_L0 [.inr (.inl 0), .inl p0] 3, [], (kw_P y x c), 0, 0) = some (some (.inl ((fn0_readHole y x c p0).1)), (kw_P ((fn0_readHole y x c p0).2.1) ((fn0_readHole y x c p0).2.2.1) ((fn0_readHole y x c p0).2.2.2))) := by
  unfold wp0_readHole at hp
  have i34 := @rc0_readHole_34
  refine am_lf_eq ?_
  generalize am_lf (am_mk kb0_readHole 0 0 14) [34, 44, 54] = kt at i34 ⊢
  refine am_cy (pre := pr1_code) (f := fm1_code) (a' := [.inr (.inl 0)]) (wc := (kw_C c)) (w' := (kw_P y x c)) (r := (some (.inl (fn1_code c)), (kw_C c), 0, 0)) ?_ ?_ ?_ ?_ ?_ ?_ ?_ ?_ ?_ ?_
  · exact ks_P_C_2_o y x c
  · rfl
  · rfl
  · exact ks_P_C_2_s y x c
  · exact ⟨c, rfl, rfl, hp.1⟩
  · exact fe1_code c
  · exact kwl_C c
  · rfl
  · exact ks_P_C_2_m y x c c
  refine am_if (c := (fn1_code c) = (-1 : Int32)) (fun h1 => ?_) (fun h1 => ?_)
  · have e : fn0_readHole y x c p0 = ((0 : Int32), y, x, c) := by
      rw [fq0_readHole]
      rw [if_pos h1]
    rw [e] <;> rfl
  · have q1 := hp.2.2 h1
    refine am_if (c := (qg0_holeCount y) < (240 : Int32)) (fun h2 => ?_) (fun h2 => ?_)
    · have q2 := q1.1 h2
      refine am_cy (pre := pr5_noteCode) (f := fm5_noteCode) (a' := [.inr (.inl 0), .inl p0, .inl (fn1_code c)]) (wc := (kw_S x)) (w' := (kw_P y (fn5_noteCode x p0 (fn1_code c)) c)) (r := (none, (kw_S (fn5_noteCode x p0 (fn1_code c))), 0, 0)) ?_ ?_ ?_ ?_ ?_ ?_ ?_ ?_ ?_ ?_
      · exact ks_P_S_1_o y x c
      · rfl
      · rfl
      · exact ks_P_S_1_s y x c
      · exact ⟨x, p0, (fn1_code c), rfl, rfl, q2.1⟩
      · exact fe5_noteCode x p0 (fn1_code c)
      · exact kwl_S (fn5_noteCode x p0 (fn1_code c))
      · rfl
      · exact ks_P_S_1_m y x c (fn5_noteCode x p0 (fn1_code c))
      have e : fn0_readHole y x c p0 = fn0_readHole_c34 y (fn5_noteCode x p0 (fn1_code c)) c (fn1_code c) := by
        rw [fq0_readHole]
        rw [if_neg h1, if_pos h2]
      rw [e]
      exact i34 y (fn5_noteCode x p0 (fn1_code c)) c (fn1_code c) _ rfl q2.2
    · have e : fn0_readHole y x c p0 = ((0 : Int32), y, x, c) := by
        rw [fq0_readHole]
        rw [if_neg h1, if_neg h2]
      rw [e] <;> rfl
abbrev pr0_readHole : List am_V → List am_C → Prop := fun a w => ∃ (y : qt0) (x : qt5) (c : qt1) (p0 : Int32), a = [.inr (.inl 0), .inl p0] ∧ w = (kw_P y x c) ∧ wp0_readHole y x c p0
noncomputable def fm0_readHole : am_M := fun a w => (fun (z : Int32 × qt0 × qt5 × qt1) => (some (.inl (z.1)), (kw_P (z.2.1) (z.2.2.1) (z.2.2.2)), 0, 0)) (fn0_readHole (qs0 w 0) (qs5 w 5) (qs1 w 13) (am_i (am_an a 1)))
theorem fe0_readHole (y : qt0) (x : qt5) (c : qt1) (p0 : Int32) : fm0_readHole [.inr (.inl 0), .inl p0] (kw_P y x c) = (some (.inl ((fn0_readHole y x c p0).1)), (kw_P ((fn0_readHole y x c p0).2.1) ((fn0_readHole y x c p0).2.2.1) ((fn0_readHole y x c p0).2.2.2)), 0, 0) := rfl
set_option maxRecDepth 100000 in
set_option maxHeartbeats 4000000 in
theorem rn0_readHole : ∀ (a : List am_V) (w : List am_C), pr0_readHole a w → ∃ nq, am_ev (am_mk kb0_readHole (fm0_readHole a w).2.2.1 (fm0_readHole a w).2.2.2 w.length) [34, 44, 54] nq (0, am_L0 a 3, [], w, 0, 0) = some ((fm0_readHole a w).1, (fm0_readHole a w).2.1) := by
  rintro a w ⟨y, x, c, p0, rfl, rfl, hp⟩
  rw [fe0_readHole y x c p0]
  exact am_lf_ev (re0_readHole y x c p0 hp)
theorem rl0_readHole : ∀ (a : List am_V) (w : List am_C), pr0_readHole a w → a.length ≤ 3 := by
  rintro a w ⟨y, x, c, p0, rfl, rfl, hp⟩
  exact Nat.le_of_ble_eq_true rfl
theorem pa0_readHole : ∀ a w, pr0_readHole a w → ∃ q a' ci fs r, a = .inr (.inl q) :: a' ∧ w[q]? = some (.inr (ci, fs)) ∧ hn_cl[ci]? = some r ∧ r.1 = hn_R0 := by
  rintro a w ⟨y, x, c, p0, rfl, rfl, hp⟩
  exact ⟨0, _, 0, _, _, rfl, rfl, rfl, rfl⟩
set_option maxRecDepth 100000 in
set_option maxHeartbeats 4000000 in
theorem km0_readHole {l : Launch} {E : (Nat → Prop) → State → Prop} {D : va_G} {ou : Nat → Nat} {ca : Nat → ClassId} (hE : hg_E E ou) : hg_Met l E D ou ca hy0_readHole prog_2_method_5_code 3 (some .boolean) 2 pr0_readHole fm0_readHole := by
  refine am_met (B := kb0_readHole) (cuts := [34, 44, 54]) (nt := 5) (by decide +kernel) rfl rfl (hg_tys_ok ca) ?_ (by decide) rl0_readHole ?_ rn0_readHole
  · exact fun t ht => List.mem_cons_of_mem _ (hg_arr t ht)
  · intro a w hp ad p e R s m args below meth c hR X hEs hnm
    have hR1 : 2 ≤ R.frames ∧ 80 ≤ R.locals := by rw [hR]; exact ⟨Nat.le_refl _, Nat.le_refl _⟩
    have hN := hE.2.1 _ _ hEs
    refine ⟨kd0_readHole_ok, fun index ci fi mode hq => kf0_ok X.2.2.2.2.1 hN.1 (index, ci, fi, mode) (am_as_mem hq), fun index ci fs hq => (am_no hq).elim, fun x v hq => (am_no hq).elim, ?_, fun o t n f hq => (am_no hq).elim, rfl, rfl, by rw [hR]; exact Nat.le_refl _, by rw [hR]; exact Nat.le_refl _⟩
    intro pc sel n0 pre0 f0 hq
    have hz : ∀ q ∈ ki0_readHole, am_CK p l e R s m args below meth c D hn_cl (va_A (am_w ad ou ca w) s.heap.size) ou ca 3 q.1 q.2.2.1 q.2.2.2.1 q.2.2.2.2 := by
      refine am_allc (am_ck_V (n := 0) X hEs hE.1 (km1_code hE) (hg_good (gw_mem 525 (by decide +kernel))) rfl (List.mem_cons_of_mem _ (gw_mem 74 (by decide +kernel))) (List.mem_cons_of_mem _ (gw_mem 522 (by decide +kernel))) (List.mem_cons_of_mem _ (gw_mem 523 (by decide +kernel))) (List.mem_cons_of_mem _ (gw_mem 524 (by decide +kernel))) pa1_code (by decide +kernel) ⟨Nat.le_trans (by decide) hR1.1, Nat.le_trans (by decide) hR1.2⟩ (kd0_readHole_ok (4, .invokevirtual 101, 3) (List.mem_of_getElem? (i := 2) rfl))) (am_allc (am_ck_V (n := 2) X hEs hE.1 (km5_noteCode hE) (hg_good (gw_mem 533 (by decide +kernel))) rfl (List.mem_cons_of_mem _ (gw_mem 73 (by decide +kernel))) (List.mem_cons_of_mem _ (gw_mem 530 (by decide +kernel))) (List.mem_cons_of_mem _ (gw_mem 531 (by decide +kernel))) (List.mem_cons_of_mem _ (gw_mem 532 (by decide +kernel))) pa5_noteCode (by decide +kernel) ⟨Nat.le_trans (by decide) hR1.1, Nat.le_trans (by decide) hR1.2⟩ (kd0_readHole_ok (31, .invokevirtual 105, 3) (List.mem_of_getElem? (i := 17) rfl))) (am_all0))
    exact hz _ (am_as_mem hq)
noncomputable def ki0_open : List (Nat × Option (List Nat) × Nat × (List am_V → List am_C → Prop) × am_M) := [(33, some [13], 1, pr1_packed, fm1_packed)]
noncomputable def kb0_open : am_B := (kd0_open, am_as kf0, hn_ty, fun _ => none, fun _ => none, am_as ki0_open, fun _ => none, 5, 2, (some .boolean))
noncomputable def fn0_open_c47 (y : qt0) (x : qt5) (c : qt1) : Int32 × qt0 := ((1 : Int32), (qu0_openCount y ((qg0_openCount y) + (1 : Int32))))
def wp0_open_c47 (y : qt0) (x : qt5) (c : qt1) : Prop := True
set_option maxRecDepth 100000 in
set_option maxHeartbeats 4000000 in
theorem rc0_open_47 (y : qt0) (x : qt5) (c : qt1) (j1 : Option am_V) (g1 : am_loO 14 j1 = true) (hp : wp0_open_c47 y x c) : am_lf (am_mk kb0_open 0 0 14) [21, 37, 47] (47, [some (.inr (.inl 0)), j1], [], (kw_P y x c), 0, 0) = some (some (.inl ((fn0_open_c47 y x c).1)), (kw_P ((fn0_open_c47 y x c).2) x c)) := by
  unfold wp0_open_c47 at hp
  refine am_lf_eq ?_
  generalize am_lf (am_mk kb0_open 0 0 14) [21, 37, 47] = kt
  refine am_sp (w' := (kw_P (qu0_openCount y ((qg0_openCount y) + (1 : Int32))) x c)) (kp_P_0_openCount y x c ((qg0_openCount y) + (1 : Int32))) ?_
  have e : fn0_open_c47 y x c = ((1 : Int32), (qu0_openCount y ((qg0_openCount y) + (1 : Int32)))) := by
    rw [fn0_open_c47]
  rw [e] <;> rfl
noncomputable def fn0_open_c37 (y : qt0) (x : qt5) (c : qt1) : Int32 × qt0 := (fn0_open_c47 (qa0_turnContexts y (((qg0_openCount y)).toNatClampNeg) (-1 : Int32)) x c)
def wp0_open_c37 (y : qt0) (x : qt5) (c : qt1) : Prop := (am_inb (qg0_openCount y) 6 = true ∧ (wp0_open_c47 (qa0_turnContexts y (((qg0_openCount y)).toNatClampNeg) (-1 : Int32)) x c))
set_option maxRecDepth 100000 in
set_option maxHeartbeats 4000000 in
theorem rc0_open_37 (y : qt0) (x : qt5) (c : qt1) (j1 : Option am_V) (g1 : am_loO 14 j1 = true) (hp : wp0_open_c37 y x c) : am_lf (am_mk kb0_open 0 0 14) [21, 37, 47] (37, [some (.inr (.inl 0)), j1], [], (kw_P y x c), 0, 0) = some (some (.inl ((fn0_open_c37 y x c).1)), (kw_P ((fn0_open_c37 y x c).2) x c)) := by
  unfold wp0_open_c37 at hp
  have i47 := @rc0_open_47
  refine am_lf_eq ?_
  generalize am_lf (am_mk kb0_open 0 0 14) [21, 37, 47] = kt at i47 ⊢
  refine am_ci (c := am_inb (qg0_openCount y) 6 = true) hp.1 ?_
  refine am_sp (w' := (kw_P (qa0_turnContexts y (((qg0_openCount y)).toNatClampNeg) (-1 : Int32)) x c)) (kp_P_0_turnContexts y x c (((qg0_openCount y)).toNatClampNeg) (-1 : Int32)) ?_
  have e : fn0_open_c37 y x c = fn0_open_c47 (qa0_turnContexts y (((qg0_openCount y)).toNatClampNeg) (-1 : Int32)) x c := by
    rw [fn0_open_c37]
  rw [e]
  exact i47 (qa0_turnContexts y (((qg0_openCount y)).toNatClampNeg) (-1 : Int32)) x c _ g1 hp.2
noncomputable def fn0_open_c21 (y : qt0) (x : qt5) (c : qt1) : Int32 × qt0 := (fn0_open_c37 (qa0_openContexts y (((qg0_openCount y)).toNatClampNeg) (fn1_packed c)) x c)
def wp0_open_c21 (y : qt0) (x : qt5) (c : qt1) : Prop := ((wp1_packed c) ∧ (am_inb (qg0_openCount y) 6 = true ∧ (wp0_open_c37 (qa0_openContexts y (((qg0_openCount y)).toNatClampNeg) (fn1_packed c)) x c)))
set_option maxRecDepth 100000 in
set_option maxHeartbeats 4000000 in
theorem rc0_open_21 (y : qt0) (x : qt5) (c : qt1) (j1 : Option am_V) (g1 : am_loO 14 j1 = true) (hp : wp0_open_c21 y x c) : am_lf (am_mk kb0_open 0 0 14) [21, 37, 47] (21, [some (.inr (.inl 0)), j1], [], (kw_P y x c), 0, 0) = some (some (.inl ((fn0_open_c21 y x c).1)), (kw_P ((fn0_open_c21 y x c).2) x c)) := by
  unfold wp0_open_c21 at hp
  have i37 := @rc0_open_37
  refine am_lf_eq ?_
  generalize am_lf (am_mk kb0_open 0 0 14) [21, 37, 47] = kt at i37 ⊢
  refine am_cy (pre := pr1_packed) (f := fm1_packed) (a' := [.inr (.inl 0)]) (wc := (kw_C c)) (w' := (kw_P y x c)) (r := (some (.inl (fn1_packed c)), (kw_C c), 0, 0)) ?_ ?_ ?_ ?_ ?_ ?_ ?_ ?_ ?_ ?_
  · exact ks_P_C_2_o y x c
  · rfl
  · rfl
  · exact ks_P_C_2_s y x c
  · exact ⟨c, rfl, rfl, hp.1⟩
  · exact fe1_packed c
  · exact kwl_C c
  · rfl
  · exact ks_P_C_2_m y x c c
  refine am_ci (c := am_inb (qg0_openCount y) 6 = true) hp.2.1 ?_
  refine am_sp (w' := (kw_P (qa0_openContexts y (((qg0_openCount y)).toNatClampNeg) (fn1_packed c)) x c)) (kp_P_0_openContexts y x c (((qg0_openCount y)).toNatClampNeg) (fn1_packed c)) ?_
  have e : fn0_open_c21 y x c = fn0_open_c37 (qa0_openContexts y (((qg0_openCount y)).toNatClampNeg) (fn1_packed c)) x c := by
    rw [fn0_open_c21]
  rw [e]
  exact i37 (qa0_openContexts y (((qg0_openCount y)).toNatClampNeg) (fn1_packed c)) x c _ g1 hp.2.2
noncomputable def fn0_open (y : qt0) (x : qt5) (c : qt1) (p0 : Int32) : Int32 × qt0 := Classical.choose (⟨_, rfl⟩ : ∃ z : Int32 × qt0, z = (if (qg0_openCount y) < (6 : Int32) then (fn0_open_c21 (qa0_openSymbols y (((qg0_openCount y)).toNatClampNeg) p0) x c) else ((0 : Int32), y)))
theorem fq0_open (y : qt0) (x : qt5) (c : qt1) (p0 : Int32) : fn0_open y x c p0 = (if (qg0_openCount y) < (6 : Int32) then (fn0_open_c21 (qa0_openSymbols y (((qg0_openCount y)).toNatClampNeg) p0) x c) else ((0 : Int32), y)) := Classical.choose_spec (⟨_, rfl⟩ : ∃ z : Int32 × qt0, z = (if (qg0_openCount y) < (6 : Int32) then (fn0_open_c21 (qa0_openSymbols y (((qg0_openCount y)).toNatClampNeg) p0) x c) else ((0 : Int32), y)))
def wp0_open (y : qt0) (x : qt5) (c : qt1) (p0 : Int32) : Prop := (((qg0_openCount y) < (6 : Int32) → (am_inb (qg0_openCount y) 6 = true ∧ (wp0_open_c21 (qa0_openSymbols y (((qg0_openCount y)).toNatClampNeg) p0) x c))) ∧ (¬ (qg0_openCount y) < (6 : Int32) → True))
set_option maxRecDepth 100000 in
set_option maxHeartbeats 4000000 in
theorem re0_open (y : qt0) (x : qt5) (c : qt1) (p0 : Int32) (hp : wp0_open y x c p0) : am_lf (am_mk kb0_open 0 0 14) [21, 37, 47] (0, am_L0 [.inr (.inl 0), .inl p0] 2, [], (kw_P y x c), 0, 0) = some (some (.inl ((fn0_open y x c p0).1)), (kw_P ((fn0_open y x c p0).2) x c)) := by
  unfold wp0_open at hp
  have i21 := @rc0_open_21
  refine am_lf_eq ?_
  generalize am_lf (am_mk kb0_open 0 0 14) [21, 37, 47] = kt at i21 ⊢
  refine am_if (c := (qg0_openCount y) < (6 : Int32)) (fun h1 => ?_) (fun h1 => ?_)
  · have q1 := hp.1 h1
    refine am_ci (c := am_inb (qg0_openCount y) 6 = true) q1.1 ?_
    refine am_sp (w' := (kw_P (qa0_openSymbols y (((qg0_openCount y)).toNatClampNeg) p0) x c)) (kp_P_0_openSymbols y x c (((qg0_openCount y)).toNatClampNeg) p0) ?_
    have e : fn0_open y x c p0 = fn0_open_c21 (qa0_openSymbols y (((qg0_openCount y)).toNatClampNeg) p0) x c := by
      rw [fq0_open]
      rw [if_pos h1]
    rw [e]
    exact i21 (qa0_openSymbols y (((qg0_openCount y)).toNatClampNeg) p0) x c _ rfl q1.2
  · have e : fn0_open y x c p0 = ((0 : Int32), y) := by
      rw [fq0_open]
      rw [if_neg h1]
    rw [e] <;> rfl
abbrev pr0_open : List am_V → List am_C → Prop := fun a w => ∃ (y : qt0) (x : qt5) (c : qt1) (p0 : Int32), a = [.inr (.inl 0), .inl p0] ∧ w = (kw_P y x c) ∧ wp0_open y x c p0
noncomputable def fm0_open : am_M := fun a w => (fun (z : Int32 × qt0) => (some (.inl (z.1)), (kw_P (z.2) (qs5 w 5) (qs1 w 13)), 0, 0)) (fn0_open (qs0 w 0) (qs5 w 5) (qs1 w 13) (am_i (am_an a 1)))
theorem fe0_open (y : qt0) (x : qt5) (c : qt1) (p0 : Int32) : fm0_open [.inr (.inl 0), .inl p0] (kw_P y x c) = (some (.inl ((fn0_open y x c p0).1)), (kw_P ((fn0_open y x c p0).2) x c), 0, 0) := rfl
set_option maxRecDepth 100000 in
set_option maxHeartbeats 4000000 in
theorem rn0_open : ∀ (a : List am_V) (w : List am_C), pr0_open a w → ∃ nq, am_ev (am_mk kb0_open (fm0_open a w).2.2.1 (fm0_open a w).2.2.2 w.length) [21, 37, 47] nq (0, am_L0 a 2, [], w, 0, 0) = some ((fm0_open a w).1, (fm0_open a w).2.1) := by
  rintro a w ⟨y, x, c, p0, rfl, rfl, hp⟩
  rw [fe0_open y x c p0]
  exact am_lf_ev (re0_open y x c p0 hp)
theorem rl0_open : ∀ (a : List am_V) (w : List am_C), pr0_open a w → a.length ≤ 2 := by
  rintro a w ⟨y, x, c, p0, rfl, rfl, hp⟩
  exact Nat.le_of_ble_eq_true rfl
theorem pa0_open : ∀ a w, pr0_open a w → ∃ q a' ci fs r, a = .inr (.inl q) :: a' ∧ w[q]? = some (.inr (ci, fs)) ∧ hn_cl[ci]? = some r ∧ r.1 = hn_R0 := by
  rintro a w ⟨y, x, c, p0, rfl, rfl, hp⟩
  exact ⟨0, _, 0, _, _, rfl, rfl, rfl, rfl⟩
set_option maxRecDepth 100000 in
set_option maxHeartbeats 4000000 in
theorem km0_open {l : Launch} {E : (Nat → Prop) → State → Prop} {D : va_G} {ou : Nat → Nat} {ca : Nat → ClassId} (hE : hg_E E ou) : hg_Met l E D ou ca hy0_open prog_2_method_6_code 2 (some .boolean) 1 pr0_open fm0_open := by
  refine am_met (B := kb0_open) (cuts := [21, 37, 47]) (nt := 5) (by decide +kernel) rfl rfl (hg_tys_ok ca) ?_ (by decide) rl0_open ?_ rn0_open
  · exact fun t ht => List.mem_cons_of_mem _ (hg_arr t ht)
  · intro a w hp ad p e R s m args below meth c hR X hEs hnm
    have hR1 : 1 ≤ R.frames ∧ 40 ≤ R.locals := by rw [hR]; exact ⟨Nat.le_refl _, Nat.le_refl _⟩
    have hN := hE.2.1 _ _ hEs
    refine ⟨kd0_open_ok, fun index ci fi mode hq => kf0_ok X.2.2.2.2.1 hN.1 (index, ci, fi, mode) (am_as_mem hq), fun index ci fs hq => (am_no hq).elim, fun x v hq => (am_no hq).elim, ?_, fun o t n f hq => (am_no hq).elim, rfl, rfl, by rw [hR]; exact Nat.le_refl _, by rw [hR]; exact Nat.le_refl _⟩
    intro pc sel n0 pre0 f0 hq
    have hz : ∀ q ∈ ki0_open, am_CK p l e R s m args below meth c D hn_cl (va_A (am_w ad ou ca w) s.heap.size) ou ca 2 q.1 q.2.2.1 q.2.2.2.1 q.2.2.2.2 := by
      refine am_allc (am_ck_V (n := 0) X hEs hE.1 (km1_packed hE) (hg_good (gw_mem 541 (by decide +kernel))) rfl (List.mem_cons_of_mem _ (gw_mem 74 (by decide +kernel))) (List.mem_cons_of_mem _ (gw_mem 538 (by decide +kernel))) (List.mem_cons_of_mem _ (gw_mem 539 (by decide +kernel))) (List.mem_cons_of_mem _ (gw_mem 540 (by decide +kernel))) pa1_packed (by decide +kernel) ⟨Nat.le_trans (by decide) hR1.1, Nat.le_trans (by decide) hR1.2⟩ (kd0_open_ok (33, .invokevirtual 112, 3) (List.mem_of_getElem? (i := 18) rfl))) (am_all0)
    exact hz _ (am_as_mem hq)
noncomputable def ki0_turn : List (Nat × Option (List Nat) × Nat × (List am_V → List am_C → Prop) × am_M) := [(29, some [5, 6, 7, 8, 9, 10, 11, 12], 2, pr5_kind, fm5_kind), (57, some [13], 1, pr1_packed, fm1_packed), (71, some [13], 2, pr1_unpack, fm1_unpack), (85, some [5, 6, 7, 8, 9, 10, 11, 12], 3, pr5_noteTurn, fm5_noteTurn)]
noncomputable def kb0_turn : am_B := (kd0_turn, am_as kf0, hn_ty, fun _ => none, fun _ => none, am_as ki0_turn, fun _ => none, 5, 3, (some .boolean))
noncomputable def fn0_turn (y : qt0) (x : qt5) (c : qt1) (p0 : Int32) : Int32 × qt0 × qt5 × qt1 := Classical.choose (⟨_, rfl⟩ : ∃ z : Int32 × qt0 × qt5 × qt1, z = (if ((qg0_openCount y) - (1 : Int32)) < 0 then ((0 : Int32), y, x, c) else (if ((qg0_openCount y) - (1 : Int32)) < (6 : Int32) then (if (fn5_kind x ((qg0_openSymbols y) (((qg0_openCount y) - (1 : Int32))).toNatClampNeg)) = (3 : Int32) then (if ((qg0_turnContexts y) (((qg0_openCount y) - (1 : Int32))).toNatClampNeg) = (-1 : Int32) then ((1 : Int32), (qa0_turnContexts y ((((qg0_openCount y) - (1 : Int32))).toNatClampNeg) (fn1_packed c)), (fn5_noteTurn x ((qg0_openSymbols (qa0_turnContexts y ((((qg0_openCount y) - (1 : Int32))).toNatClampNeg) (fn1_packed c))) (((qg0_openCount y) - (1 : Int32))).toNatClampNeg) p0), (fn1_unpack c ((qg0_openContexts (qa0_turnContexts y ((((qg0_openCount y) - (1 : Int32))).toNatClampNeg) (fn1_packed c))) (((qg0_openCount y) - (1 : Int32))).toNatClampNeg))) else ((0 : Int32), y, x, c)) else ((0 : Int32), y, x, c)) else ((0 : Int32), y, x, c))))
theorem fq0_turn (y : qt0) (x : qt5) (c : qt1) (p0 : Int32) : fn0_turn y x c p0 = (if ((qg0_openCount y) - (1 : Int32)) < 0 then ((0 : Int32), y, x, c) else (if ((qg0_openCount y) - (1 : Int32)) < (6 : Int32) then (if (fn5_kind x ((qg0_openSymbols y) (((qg0_openCount y) - (1 : Int32))).toNatClampNeg)) = (3 : Int32) then (if ((qg0_turnContexts y) (((qg0_openCount y) - (1 : Int32))).toNatClampNeg) = (-1 : Int32) then ((1 : Int32), (qa0_turnContexts y ((((qg0_openCount y) - (1 : Int32))).toNatClampNeg) (fn1_packed c)), (fn5_noteTurn x ((qg0_openSymbols (qa0_turnContexts y ((((qg0_openCount y) - (1 : Int32))).toNatClampNeg) (fn1_packed c))) (((qg0_openCount y) - (1 : Int32))).toNatClampNeg) p0), (fn1_unpack c ((qg0_openContexts (qa0_turnContexts y ((((qg0_openCount y) - (1 : Int32))).toNatClampNeg) (fn1_packed c))) (((qg0_openCount y) - (1 : Int32))).toNatClampNeg))) else ((0 : Int32), y, x, c)) else ((0 : Int32), y, x, c)) else ((0 : Int32), y, x, c))) := Classical.choose_spec (⟨_, rfl⟩ : ∃ z : Int32 × qt0 × qt5 × qt1, z = (if ((qg0_openCount y) - (1 : Int32)) < 0 then ((0 : Int32), y, x, c) else (if ((qg0_openCount y) - (1 : Int32)) < (6 : Int32) then (if (fn5_kind x ((qg0_openSymbols y) (((qg0_openCount y) - (1 : Int32))).toNatClampNeg)) = (3 : Int32) then (if ((qg0_turnContexts y) (((qg0_openCount y) - (1 : Int32))).toNatClampNeg) = (-1 : Int32) then ((1 : Int32), (qa0_turnContexts y ((((qg0_openCount y) - (1 : Int32))).toNatClampNeg) (fn1_packed c)), (fn5_noteTurn x ((qg0_openSymbols (qa0_turnContexts y ((((qg0_openCount y) - (1 : Int32))).toNatClampNeg) (fn1_packed c))) (((qg0_openCount y) - (1 : Int32))).toNatClampNeg) p0), (fn1_unpack c ((qg0_openContexts (qa0_turnContexts y ((((qg0_openCount y) - (1 : Int32))).toNatClampNeg) (fn1_packed c))) (((qg0_openCount y) - (1 : Int32))).toNatClampNeg))) else ((0 : Int32), y, x, c)) else ((0 : Int32), y, x, c)) else ((0 : Int32), y, x, c))))
def wp0_turn (y : qt0) (x : qt5) (c : qt1) (p0 : Int32) : Prop := ((((qg0_openCount y) - (1 : Int32)) < 0 → True) ∧ (¬ ((qg0_openCount y) - (1 : Int32)) < 0 → ((((qg0_openCount y) - (1 : Int32)) < (6 : Int32) → (am_inb ((qg0_openCount y) - (1 : Int32)) 6 = true ∧ ((wp5_kind x ((qg0_openSymbols y) (((qg0_openCount y) - (1 : Int32))).toNatClampNeg)) ∧ (((fn5_kind x ((qg0_openSymbols y) (((qg0_openCount y) - (1 : Int32))).toNatClampNeg)) = (3 : Int32) → (am_inb ((qg0_openCount y) - (1 : Int32)) 6 = true ∧ ((((qg0_turnContexts y) (((qg0_openCount y) - (1 : Int32))).toNatClampNeg) = (-1 : Int32) → ((wp1_packed c) ∧ (am_inb ((qg0_openCount y) - (1 : Int32)) 6 = true ∧ (am_inb ((qg0_openCount y) - (1 : Int32)) 6 = true ∧ ((wp1_unpack c ((qg0_openContexts (qa0_turnContexts y ((((qg0_openCount y) - (1 : Int32))).toNatClampNeg) (fn1_packed c))) (((qg0_openCount y) - (1 : Int32))).toNatClampNeg)) ∧ (am_inb ((qg0_openCount y) - (1 : Int32)) 6 = true ∧ (wp5_noteTurn x ((qg0_openSymbols (qa0_turnContexts y ((((qg0_openCount y) - (1 : Int32))).toNatClampNeg) (fn1_packed c))) (((qg0_openCount y) - (1 : Int32))).toNatClampNeg) p0))))))) ∧ (¬ ((qg0_turnContexts y) (((qg0_openCount y) - (1 : Int32))).toNatClampNeg) = (-1 : Int32) → True)))) ∧ (¬ (fn5_kind x ((qg0_openSymbols y) (((qg0_openCount y) - (1 : Int32))).toNatClampNeg)) = (3 : Int32) → True))))) ∧ (¬ ((qg0_openCount y) - (1 : Int32)) < (6 : Int32) → True))))
set_option maxRecDepth 100000 in
set_option maxHeartbeats 4000000 in
theorem re0_turn (y : qt0) (x : qt5) (c : qt1) (p0 : Int32) (hp : wp0_turn y x c p0) : am_lf (am_mk kb0_turn 0 0 14) [] (0, am_L0 [.inr (.inl 0), .inl p0] 3, [], (kw_P y x c), 0, 0) = some (some (.inl ((fn0_turn y x c p0).1)), (kw_P ((fn0_turn y x c p0).2.1) ((fn0_turn y x c p0).2.2.1) ((fn0_turn y x c p0).2.2.2))) := by
  unfold wp0_turn at hp
  refine am_lf_eq ?_
  generalize am_lf (am_mk kb0_turn 0 0 14) [] = kt
  refine am_if (c := ((qg0_openCount y) - (1 : Int32)) < 0) (fun h1 => ?_) (fun h1 => ?_)
  · have e : fn0_turn y x c p0 = ((0 : Int32), y, x, c) := by
      rw [fq0_turn]
      rw [if_pos h1]
    rw [e] <;> rfl
  · have q1 := hp.2 h1
    refine am_if (c := ((qg0_openCount y) - (1 : Int32)) < (6 : Int32)) (fun h2 => ?_) (fun h2 => ?_)
    · have q2 := q1.1 h2
      refine am_ci (c := am_inb ((qg0_openCount y) - (1 : Int32)) 6 = true) q2.1 ?_
      refine am_cy (pre := pr5_kind) (f := fm5_kind) (a' := [.inr (.inl 0), .inl ((qg0_openSymbols y) (((qg0_openCount y) - (1 : Int32))).toNatClampNeg)]) (wc := (kw_S x)) (w' := (kw_P y x c)) (r := (some (.inl (fn5_kind x ((qg0_openSymbols y) (((qg0_openCount y) - (1 : Int32))).toNatClampNeg))), (kw_S x), 0, 0)) ?_ ?_ ?_ ?_ ?_ ?_ ?_ ?_ ?_ ?_
      · exact ks_P_S_1_o y x c
      · rfl
      · rfl
      · exact ks_P_S_1_s y x c
      · exact ⟨x, ((qg0_openSymbols y) (((qg0_openCount y) - (1 : Int32))).toNatClampNeg), rfl, rfl, q2.2.1⟩
      · exact fe5_kind x ((qg0_openSymbols y) (((qg0_openCount y) - (1 : Int32))).toNatClampNeg)
      · exact kwl_S x
      · rfl
      · exact ks_P_S_1_m y x c x
      refine am_if (c := (fn5_kind x ((qg0_openSymbols y) (((qg0_openCount y) - (1 : Int32))).toNatClampNeg)) = (3 : Int32)) (fun h3 => ?_) (fun h3 => ?_)
      · have q3 := q2.2.2.1 h3
        refine am_ci (c := am_inb ((qg0_openCount y) - (1 : Int32)) 6 = true) q3.1 ?_
        refine am_if (c := ((qg0_turnContexts y) (((qg0_openCount y) - (1 : Int32))).toNatClampNeg) = (-1 : Int32)) (fun h4 => ?_) (fun h4 => ?_)
        · have q4 := q3.2.1 h4
          refine am_cy (pre := pr1_packed) (f := fm1_packed) (a' := [.inr (.inl 0)]) (wc := (kw_C c)) (w' := (kw_P y x c)) (r := (some (.inl (fn1_packed c)), (kw_C c), 0, 0)) ?_ ?_ ?_ ?_ ?_ ?_ ?_ ?_ ?_ ?_
          · exact ks_P_C_2_o y x c
          · rfl
          · rfl
          · exact ks_P_C_2_s y x c
          · exact ⟨c, rfl, rfl, q4.1⟩
          · exact fe1_packed c
          · exact kwl_C c
          · rfl
          · exact ks_P_C_2_m y x c c
          refine am_ci (c := am_inb ((qg0_openCount y) - (1 : Int32)) 6 = true) q4.2.1 ?_
          refine am_sp (w' := (kw_P (qa0_turnContexts y ((((qg0_openCount y) - (1 : Int32))).toNatClampNeg) (fn1_packed c)) x c)) (kp_P_0_turnContexts y x c ((((qg0_openCount y) - (1 : Int32))).toNatClampNeg) (fn1_packed c)) ?_
          refine am_ci (c := am_inb ((qg0_openCount y) - (1 : Int32)) 6 = true) q4.2.2.1 ?_
          refine am_cy (pre := pr1_unpack) (f := fm1_unpack) (a' := [.inr (.inl 0), .inl ((qg0_openContexts (qa0_turnContexts y ((((qg0_openCount y) - (1 : Int32))).toNatClampNeg) (fn1_packed c))) (((qg0_openCount y) - (1 : Int32))).toNatClampNeg)]) (wc := (kw_C c)) (w' := (kw_P (qa0_turnContexts y ((((qg0_openCount y) - (1 : Int32))).toNatClampNeg) (fn1_packed c)) x (fn1_unpack c ((qg0_openContexts (qa0_turnContexts y ((((qg0_openCount y) - (1 : Int32))).toNatClampNeg) (fn1_packed c))) (((qg0_openCount y) - (1 : Int32))).toNatClampNeg)))) (r := (none, (kw_C (fn1_unpack c ((qg0_openContexts (qa0_turnContexts y ((((qg0_openCount y) - (1 : Int32))).toNatClampNeg) (fn1_packed c))) (((qg0_openCount y) - (1 : Int32))).toNatClampNeg))), 0, 0)) ?_ ?_ ?_ ?_ ?_ ?_ ?_ ?_ ?_ ?_
          · exact ks_P_C_2_o (qa0_turnContexts y ((((qg0_openCount y) - (1 : Int32))).toNatClampNeg) (fn1_packed c)) x c
          · rfl
          · rfl
          · exact ks_P_C_2_s (qa0_turnContexts y ((((qg0_openCount y) - (1 : Int32))).toNatClampNeg) (fn1_packed c)) x c
          · exact ⟨c, ((qg0_openContexts (qa0_turnContexts y ((((qg0_openCount y) - (1 : Int32))).toNatClampNeg) (fn1_packed c))) (((qg0_openCount y) - (1 : Int32))).toNatClampNeg), rfl, rfl, q4.2.2.2.1⟩
          · exact fe1_unpack c ((qg0_openContexts (qa0_turnContexts y ((((qg0_openCount y) - (1 : Int32))).toNatClampNeg) (fn1_packed c))) (((qg0_openCount y) - (1 : Int32))).toNatClampNeg)
          · exact kwl_C (fn1_unpack c ((qg0_openContexts (qa0_turnContexts y ((((qg0_openCount y) - (1 : Int32))).toNatClampNeg) (fn1_packed c))) (((qg0_openCount y) - (1 : Int32))).toNatClampNeg))
          · rfl
          · exact ks_P_C_2_m (qa0_turnContexts y ((((qg0_openCount y) - (1 : Int32))).toNatClampNeg) (fn1_packed c)) x c (fn1_unpack c ((qg0_openContexts (qa0_turnContexts y ((((qg0_openCount y) - (1 : Int32))).toNatClampNeg) (fn1_packed c))) (((qg0_openCount y) - (1 : Int32))).toNatClampNeg))
          refine am_ci (c := am_inb ((qg0_openCount y) - (1 : Int32)) 6 = true) q4.2.2.2.2.1 ?_
          refine am_cy (pre := pr5_noteTurn) (f := fm5_noteTurn) (a' := [.inr (.inl 0), .inl ((qg0_openSymbols (qa0_turnContexts y ((((qg0_openCount y) - (1 : Int32))).toNatClampNeg) (fn1_packed c))) (((qg0_openCount y) - (1 : Int32))).toNatClampNeg), .inl p0]) (wc := (kw_S x)) (w' := (kw_P (qa0_turnContexts y ((((qg0_openCount y) - (1 : Int32))).toNatClampNeg) (fn1_packed c)) (fn5_noteTurn x ((qg0_openSymbols (qa0_turnContexts y ((((qg0_openCount y) - (1 : Int32))).toNatClampNeg) (fn1_packed c))) (((qg0_openCount y) - (1 : Int32))).toNatClampNeg) p0) (fn1_unpack c ((qg0_openContexts (qa0_turnContexts y ((((qg0_openCount y) - (1 : Int32))).toNatClampNeg) (fn1_packed c))) (((qg0_openCount y) - (1 : Int32))).toNatClampNeg)))) (r := (none, (kw_S (fn5_noteTurn x ((qg0_openSymbols (qa0_turnContexts y ((((qg0_openCount y) - (1 : Int32))).toNatClampNeg) (fn1_packed c))) (((qg0_openCount y) - (1 : Int32))).toNatClampNeg) p0)), 0, 0)) ?_ ?_ ?_ ?_ ?_ ?_ ?_ ?_ ?_ ?_
          · exact ks_P_S_1_o (qa0_turnContexts y ((((qg0_openCount y) - (1 : Int32))).toNatClampNeg) (fn1_packed c)) x (fn1_unpack c ((qg0_openContexts (qa0_turnContexts y ((((qg0_openCount y) - (1 : Int32))).toNatClampNeg) (fn1_packed c))) (((qg0_openCount y) - (1 : Int32))).toNatClampNeg))
          · rfl
          · rfl
          · exact ks_P_S_1_s (qa0_turnContexts y ((((qg0_openCount y) - (1 : Int32))).toNatClampNeg) (fn1_packed c)) x (fn1_unpack c ((qg0_openContexts (qa0_turnContexts y ((((qg0_openCount y) - (1 : Int32))).toNatClampNeg) (fn1_packed c))) (((qg0_openCount y) - (1 : Int32))).toNatClampNeg))
          · exact ⟨x, ((qg0_openSymbols (qa0_turnContexts y ((((qg0_openCount y) - (1 : Int32))).toNatClampNeg) (fn1_packed c))) (((qg0_openCount y) - (1 : Int32))).toNatClampNeg), p0, rfl, rfl, q4.2.2.2.2.2⟩
          · exact fe5_noteTurn x ((qg0_openSymbols (qa0_turnContexts y ((((qg0_openCount y) - (1 : Int32))).toNatClampNeg) (fn1_packed c))) (((qg0_openCount y) - (1 : Int32))).toNatClampNeg) p0
          · exact kwl_S (fn5_noteTurn x ((qg0_openSymbols (qa0_turnContexts y ((((qg0_openCount y) - (1 : Int32))).toNatClampNeg) (fn1_packed c))) (((qg0_openCount y) - (1 : Int32))).toNatClampNeg) p0)
          · rfl
          · exact ks_P_S_1_m (qa0_turnContexts y ((((qg0_openCount y) - (1 : Int32))).toNatClampNeg) (fn1_packed c)) x (fn1_unpack c ((qg0_openContexts (qa0_turnContexts y ((((qg0_openCount y) - (1 : Int32))).toNatClampNeg) (fn1_packed c))) (((qg0_openCount y) - (1 : Int32))).toNatClampNeg)) (fn5_noteTurn x ((qg0_openSymbols (qa0_turnContexts y ((((qg0_openCount y) - (1 : Int32))).toNatClampNeg) (fn1_packed c))) (((qg0_openCount y) - (1 : Int32))).toNatClampNeg) p0)
          have e : fn0_turn y x c p0 = ((1 : Int32), (qa0_turnContexts y ((((qg0_openCount y) - (1 : Int32))).toNatClampNeg) (fn1_packed c)), (fn5_noteTurn x ((qg0_openSymbols (qa0_turnContexts y ((((qg0_openCount y) - (1 : Int32))).toNatClampNeg) (fn1_packed c))) (((qg0_openCount y) - (1 : Int32))).toNatClampNeg) p0), (fn1_unpack c ((qg0_openContexts (qa0_turnContexts y ((((qg0_openCount y) - (1 : Int32))).toNatClampNeg) (fn1_packed c))) (((qg0_openCount y) - (1 : Int32))).toNatClampNeg))) := by
            rw [fq0_turn]
            rw [if_neg h1, if_pos h2, if_pos h3, if_pos h4]
          rw [e] <;> rfl
        · have e : fn0_turn y x c p0 = ((0 : Int32), y, x, c) := by
            rw [fq0_turn]
            rw [if_neg h1, if_pos h2, if_pos h3, if_neg h4]
          rw [e] <;> rfl
      · have e : fn0_turn y x c p0 = ((0 : Int32), y, x, c) := by
          rw [fq0_turn]
          rw [if_neg h1, if_pos h2, if_neg h3]
        rw [e] <;> rfl
    · have e : fn0_turn y x c p0 = ((0 : Int32), y, x, c) := by
        rw [fq0_turn]
        rw [if_neg h1, if_neg h2]
      rw [e] <;> rfl
abbrev pr0_turn : List am_V → List am_C → Prop := fun a w => ∃ (y : qt0) (x : qt5) (c : qt1) (p0 : Int32), a = [.inr (.inl 0), .inl p0] ∧ w = (kw_P y x c) ∧ wp0_turn y x c p0
noncomputable def fm0_turn : am_M := fun a w => (fun (z : Int32 × qt0 × qt5 × qt1) => (some (.inl (z.1)), (kw_P (z.2.1) (z.2.2.1) (z.2.2.2)), 0, 0)) (fn0_turn (qs0 w 0) (qs5 w 5) (qs1 w 13) (am_i (am_an a 1)))
theorem fe0_turn (y : qt0) (x : qt5) (c : qt1) (p0 : Int32) : fm0_turn [.inr (.inl 0), .inl p0] (kw_P y x c) = (some (.inl ((fn0_turn y x c p0).1)), (kw_P ((fn0_turn y x c p0).2.1) ((fn0_turn y x c p0).2.2.1) ((fn0_turn y x c p0).2.2.2)), 0, 0) := rfl
set_option maxRecDepth 100000 in
set_option maxHeartbeats 4000000 in
theorem rn0_turn : ∀ (a : List am_V) (w : List am_C), pr0_turn a w → ∃ nq, am_ev (am_mk kb0_turn (fm0_turn a w).2.2.1 (fm0_turn a w).2.2.2 w.length) [] nq (0, am_L0 a 3, [], w, 0, 0) = some ((fm0_turn a w).1, (fm0_turn a w).2.1) := by
  rintro a w ⟨y, x, c, p0, rfl, rfl, hp⟩
  rw [fe0_turn y x c p0]
  exact am_lf_ev (re0_turn y x c p0 hp)
theorem rl0_turn : ∀ (a : List am_V) (w : List am_C), pr0_turn a w → a.length ≤ 3 := by
  rintro a w ⟨y, x, c, p0, rfl, rfl, hp⟩
  exact Nat.le_of_ble_eq_true rfl
theorem pa0_turn : ∀ a w, pr0_turn a w → ∃ q a' ci fs r, a = .inr (.inl q) :: a' ∧ w[q]? = some (.inr (ci, fs)) ∧ hn_cl[ci]? = some r ∧ r.1 = hn_R0 := by
  rintro a w ⟨y, x, c, p0, rfl, rfl, hp⟩
  exact ⟨0, _, 0, _, _, rfl, rfl, rfl, rfl⟩
set_option maxRecDepth 100000 in
set_option maxHeartbeats 4000000 in
theorem km0_turn {l : Launch} {E : (Nat → Prop) → State → Prop} {D : va_G} {ou : Nat → Nat} {ca : Nat → ClassId} (hE : hg_E E ou) : hg_Met l E D ou ca hy0_turn prog_2_method_7_code 3 (some .boolean) 2 pr0_turn fm0_turn := by
  refine am_met (B := kb0_turn) (cuts := []) (nt := 5) (by decide +kernel) rfl rfl (hg_tys_ok ca) ?_ (by decide) rl0_turn ?_ rn0_turn
  · exact fun t ht => List.mem_cons_of_mem _ (hg_arr t ht)
  · intro a w hp ad p e R s m args below meth c hR X hEs hnm
    have hR1 : 2 ≤ R.frames ∧ 80 ≤ R.locals := by rw [hR]; exact ⟨Nat.le_refl _, Nat.le_refl _⟩
    have hN := hE.2.1 _ _ hEs
    refine ⟨kd0_turn_ok, fun index ci fi mode hq => kf0_ok X.2.2.2.2.1 hN.1 (index, ci, fi, mode) (am_as_mem hq), fun index ci fs hq => (am_no hq).elim, fun x v hq => (am_no hq).elim, ?_, fun o t n f hq => (am_no hq).elim, rfl, rfl, by rw [hR]; exact Nat.le_refl _, by rw [hR]; exact Nat.le_refl _⟩
    intro pc sel n0 pre0 f0 hq
    have hz : ∀ q ∈ ki0_turn, am_CK p l e R s m args below meth c D hn_cl (va_A (am_w ad ou ca w) s.heap.size) ou ca 3 q.1 q.2.2.1 q.2.2.2.1 q.2.2.2.2 := by
      refine am_allc (am_ck_V (n := 1) X hEs hE.1 (km5_kind hE) (hg_good (gw_mem 338 (by decide +kernel))) rfl (List.mem_cons_of_mem _ (gw_mem 73 (by decide +kernel))) (List.mem_cons_of_mem _ (gw_mem 335 (by decide +kernel))) (List.mem_cons_of_mem _ (gw_mem 336 (by decide +kernel))) (List.mem_cons_of_mem _ (gw_mem 337 (by decide +kernel))) pa5_kind (by decide +kernel) ⟨Nat.le_trans (by decide) hR1.1, Nat.le_trans (by decide) hR1.2⟩ (kd0_turn_ok (29, .invokevirtual 59, 3) (List.mem_of_getElem? (i := 18) rfl))) (am_allc (am_ck_V (n := 0) X hEs hE.1 (km1_packed hE) (hg_good (gw_mem 541 (by decide +kernel))) rfl (List.mem_cons_of_mem _ (gw_mem 74 (by decide +kernel))) (List.mem_cons_of_mem _ (gw_mem 538 (by decide +kernel))) (List.mem_cons_of_mem _ (gw_mem 539 (by decide +kernel))) (List.mem_cons_of_mem _ (gw_mem 540 (by decide +kernel))) pa1_packed (by decide +kernel) ⟨Nat.le_trans (by decide) hR1.1, Nat.le_trans (by decide) hR1.2⟩ (kd0_turn_ok (57, .invokevirtual 112, 3) (List.mem_of_getElem? (i := 34) rfl))) (am_allc (am_ck_V (n := 1) X hEs hE.1 (km1_unpack hE) (hg_good (gw_mem 549 (by decide +kernel))) rfl (List.mem_cons_of_mem _ (gw_mem 74 (by decide +kernel))) (List.mem_cons_of_mem _ (gw_mem 546 (by decide +kernel))) (List.mem_cons_of_mem _ (gw_mem 547 (by decide +kernel))) (List.mem_cons_of_mem _ (gw_mem 548 (by decide +kernel))) pa1_unpack (by decide +kernel) ⟨Nat.le_trans (by decide) hR1.1, Nat.le_trans (by decide) hR1.2⟩ (kd0_turn_ok (71, .invokevirtual 115, 3) (List.mem_of_getElem? (i := 42) rfl))) (am_allc (am_ck_V (n := 2) X hEs hE.1 (km5_noteTurn hE) (hg_good (gw_mem 553 (by decide +kernel))) rfl (List.mem_cons_of_mem _ (gw_mem 73 (by decide +kernel))) (List.mem_cons_of_mem _ (gw_mem 550 (by decide +kernel))) (List.mem_cons_of_mem _ (gw_mem 551 (by decide +kernel))) (List.mem_cons_of_mem _ (gw_mem 552 (by decide +kernel))) pa5_noteTurn (by decide +kernel) ⟨Nat.le_trans (by decide) hR1.1, Nat.le_trans (by decide) hR1.2⟩ (kd0_turn_ok (85, .invokevirtual 118, 3) (List.mem_of_getElem? (i := 50) rfl))) (am_all0))))
    exact hz _ (am_as_mem hq)
