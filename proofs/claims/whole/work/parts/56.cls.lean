noncomputable def ki3_elementOf : List (Nat × Option (List Nat) × Nat × (List am_V → List am_C → Prop) × am_M) := [(5, none, 4, pr5_spells, fm5_spells), (18, none, 4, pr5_spells, fm5_spells), (31, none, 4, pr5_spells, fm5_spells)]
def kc3_elementOf : List (Nat × am_V) := [(79, .inr (.inr (1 + 1))), (81, .inr (.inr (2 + 1))), (83, .inr (.inr (3 + 1)))]
noncomputable def kb3_elementOf : am_B := (kd3_elementOf, am_as kf3, hn_ty, fun _ => none, am_as kc3_elementOf, am_as ki3_elementOf, fun _ => none, 5, 3, (some .int))
noncomputable def fn3_elementOf (x : qt5) (p1 : Int32) (p2 : Int32) : Int32 := Classical.choose (⟨_, rfl⟩ : ∃ z : Int32, z = (if (fn5_spells x p1 p2 1) = 0 then (if (fn5_spells x p1 p2 2) = 0 then (if (fn5_spells x p1 p2 3) = 0 then (0 : Int32) else (3 : Int32)) else (2 : Int32)) else (1 : Int32)))
theorem fq3_elementOf (x : qt5) (p1 : Int32) (p2 : Int32) : fn3_elementOf x p1 p2 = (if (fn5_spells x p1 p2 1) = 0 then (if (fn5_spells x p1 p2 2) = 0 then (if (fn5_spells x p1 p2 3) = 0 then (0 : Int32) else (3 : Int32)) else (2 : Int32)) else (1 : Int32)) := Classical.choose_spec (⟨_, rfl⟩ : ∃ z : Int32, z = (if (fn5_spells x p1 p2 1) = 0 then (if (fn5_spells x p1 p2 2) = 0 then (if (fn5_spells x p1 p2 3) = 0 then (0 : Int32) else (3 : Int32)) else (2 : Int32)) else (1 : Int32)))
def wp3_elementOf (x : qt5) (p1 : Int32) (p2 : Int32) : Prop := ((wp5_spells x p1 p2 1) ∧ (((fn5_spells x p1 p2 1) = 0 → ((wp5_spells x p1 p2 2) ∧ (((fn5_spells x p1 p2 2) = 0 → (wp5_spells x p1 p2 3)) ∧ (¬ (fn5_spells x p1 p2 2) = 0 → True)))) ∧ (¬ (fn5_spells x p1 p2 1) = 0 → True)))
set_option maxRecDepth 100000 in
set_option maxHeartbeats 4000000 in
theorem re3_elementOf (x : qt5) (p1 : Int32) (p2 : Int32) (hp : wp3_elementOf x p1 p2) : am_lf (am_mk kb3_elementOf 0 0 8) [] (0, am_L0 [.inr (.inl 0), .inl p1, .inl p2] 3, [], (kw_S x), 0, 0) = some (some (.inl (fn3_elementOf x p1 p2)), (kw_S x)) := by
  unfold wp3_elementOf at hp
  refine am_lf_eq ?_
  generalize am_lf (am_mk kb3_elementOf 0 0 8) [] = kt
  refine am_cx (pre := pr5_spells) (f := fm5_spells) (r := (some (.inl (fn5_spells x p1 p2 1)), (kw_S x), 0, 0)) ?_ ?_ ?_ ?_
  · exact ⟨x, p1, p2, 1, rfl, rfl, hp.1⟩
  · exact fe5_spells x p1 p2 1
  · exact rfl
  refine am_if (c := (fn5_spells x p1 p2 1) = 0) (fun h1 => ?_) (fun h1 => ?_)
  · have q1 := hp.2.1 h1
    refine am_cx (pre := pr5_spells) (f := fm5_spells) (r := (some (.inl (fn5_spells x p1 p2 2)), (kw_S x), 0, 0)) ?_ ?_ ?_ ?_
    · exact ⟨x, p1, p2, 2, rfl, rfl, q1.1⟩
    · exact fe5_spells x p1 p2 2
    · exact rfl
    refine am_if (c := (fn5_spells x p1 p2 2) = 0) (fun h2 => ?_) (fun h2 => ?_)
    · have q2 := q1.2.1 h2
      refine am_cx (pre := pr5_spells) (f := fm5_spells) (r := (some (.inl (fn5_spells x p1 p2 3)), (kw_S x), 0, 0)) ?_ ?_ ?_ ?_
      · exact ⟨x, p1, p2, 3, rfl, rfl, q2⟩
      · exact fe5_spells x p1 p2 3
      · exact rfl
      refine am_if (c := (fn5_spells x p1 p2 3) = 0) (fun h3 => ?_) (fun h3 => ?_)
      · have e : fn3_elementOf x p1 p2 = (0 : Int32) := by
          rw [fq3_elementOf]
          rw [if_pos h1, if_pos h2, if_pos h3]
        rw [e] <;> rfl
      · have e : fn3_elementOf x p1 p2 = (3 : Int32) := by
          rw [fq3_elementOf]
          rw [if_pos h1, if_pos h2, if_neg h3]
        rw [e] <;> rfl
    · have e : fn3_elementOf x p1 p2 = (2 : Int32) := by
        rw [fq3_elementOf]
        rw [if_pos h1, if_neg h2]
      rw [e] <;> rfl
  · have e : fn3_elementOf x p1 p2 = (1 : Int32) := by
      rw [fq3_elementOf]
      rw [if_neg h1]
    rw [e] <;> rfl
abbrev pr3_elementOf : List am_V → List am_C → Prop := fun a w => ∃ (x : qt5) (p1 : Int32) (p2 : Int32), a = [.inr (.inl 0), .inl p1, .inl p2] ∧ w = (kw_S x) ∧ wp3_elementOf x p1 p2
noncomputable def fm3_elementOf : am_M := fun a w => (fun (z : Int32) => (some (.inl z), (kw_S (qs5 w 0)), 0, 0)) (fn3_elementOf (qs5 w 0) (am_i (am_an a 1)) (am_i (am_an a 2)))
theorem fe3_elementOf (x : qt5) (p1 : Int32) (p2 : Int32) : fm3_elementOf [.inr (.inl 0), .inl p1, .inl p2] (kw_S x) = (some (.inl (fn3_elementOf x p1 p2)), (kw_S x), 0, 0) := rfl
set_option maxRecDepth 100000 in
set_option maxHeartbeats 4000000 in
theorem rn3_elementOf : ∀ (a : List am_V) (w : List am_C), pr3_elementOf a w → ∃ nq, am_ev (am_mk kb3_elementOf (fm3_elementOf a w).2.2.1 (fm3_elementOf a w).2.2.2 w.length) [] nq (0, am_L0 a 3, [], w, 0, 0) = some ((fm3_elementOf a w).1, (fm3_elementOf a w).2.1) := by
  rintro a w ⟨x, p1, p2, rfl, rfl, hp⟩
  rw [fe3_elementOf x p1 p2]
  exact am_lf_ev (re3_elementOf x p1 p2 hp)
theorem rl3_elementOf : ∀ (a : List am_V) (w : List am_C), pr3_elementOf a w → a.length ≤ 3 := by
  rintro a w ⟨x, p1, p2, rfl, rfl, hp⟩
  exact Nat.le_of_ble_eq_true rfl
set_option maxRecDepth 100000 in
set_option maxHeartbeats 4000000 in
theorem km3_elementOf {l : Launch} {E : (Nat → Prop) → State → Prop} {D : va_G} {ou : Nat → Nat} {ca : Nat → ClassId} (hE : hg_E E ou) : hg_Met l E D ou ca hy3_elementOf prog_5_method_6_code 3 (some .int) 5 pr3_elementOf fm3_elementOf := by
  refine am_met (B := kb3_elementOf) (cuts := []) (nt := 5) (by decide +kernel) rfl rfl (hg_tys_ok ca) ?_ (by decide) rl3_elementOf ?_ rn3_elementOf
  · exact fun t ht => List.mem_cons_of_mem _ (hg_arr t ht)
  · intro a w hp ad p e R s m args below meth c hR X hEs hnm
    have hR1 : 5 ≤ R.frames ∧ 200 ≤ R.locals := by rw [hR]; exact ⟨Nat.le_refl _, Nat.le_refl _⟩
    have hN := hE.2.1 _ _ hEs
    have hc : ∀ q ∈ kc3_elementOf, am_LK s hn_R3 args ou q.1 q.2 := am_allc (hg_lk hN.2 1 rfl) (am_allc (hg_lk hN.2 2 rfl) (am_allc (hg_lk hN.2 3 rfl) (am_all0)))
    refine ⟨kd3_elementOf_ok, fun index ci fi mode hq => kf3_ok X.2.2.2.2.1 hN.1 (index, ci, fi, mode) (am_as_mem hq), fun index ci fs hq => (am_no hq).elim, fun x v hq => hc (x, v) (am_as_mem hq), ?_, fun o t n f hq => (am_no hq).elim, rfl, rfl, by rw [hR]; exact Nat.le_refl _, by rw [hR]; exact Nat.le_refl _⟩
    intro pc sel n0 pre0 f0 hq
    have hz : ∀ q ∈ ki3_elementOf, am_CK p l e R s m args below meth c D hn_cl (va_A (am_w ad ou ca w) s.heap.size) ou ca 3 q.1 q.2.2.1 q.2.2.2.1 q.2.2.2.2 := by
      refine am_allc (am_ck_V (n := 3) X hEs hE.1 (km5_spells hE) (hg_good (gw_mem 363 (by decide +kernel))) rfl (List.mem_cons_of_mem _ (gw_mem 73 (by decide +kernel))) (List.mem_cons_of_mem _ (gw_mem 360 (by decide +kernel))) (List.mem_cons_of_mem _ (gw_mem 361 (by decide +kernel))) (List.mem_cons_of_mem _ (gw_mem 362 (by decide +kernel))) pa5_spells (by decide +kernel) ⟨Nat.le_trans (by decide) hR1.1, Nat.le_trans (by decide) hR1.2⟩ (kd3_elementOf_ok (5, .invokevirtual 48, 3) (List.mem_of_getElem? (i := 4) rfl))) (am_allc (am_ck_V (n := 3) X hEs hE.1 (km5_spells hE) (hg_good (gw_mem 363 (by decide +kernel))) rfl (List.mem_cons_of_mem _ (gw_mem 73 (by decide +kernel))) (List.mem_cons_of_mem _ (gw_mem 360 (by decide +kernel))) (List.mem_cons_of_mem _ (gw_mem 361 (by decide +kernel))) (List.mem_cons_of_mem _ (gw_mem 362 (by decide +kernel))) pa5_spells (by decide +kernel) ⟨Nat.le_trans (by decide) hR1.1, Nat.le_trans (by decide) hR1.2⟩ (kd3_elementOf_ok (18, .invokevirtual 48, 3) (List.mem_of_getElem? (i := 12) rfl))) (am_allc (am_ck_V (n := 3) X hEs hE.1 (km5_spells hE) (hg_good (gw_mem 363 (by decide +kernel))) rfl (List.mem_cons_of_mem _ (gw_mem 73 (by decide +kernel))) (List.mem_cons_of_mem _ (gw_mem 360 (by decide +kernel))) (List.mem_cons_of_mem _ (gw_mem 361 (by decide +kernel))) (List.mem_cons_of_mem _ (gw_mem 362 (by decide +kernel))) pa5_spells (by decide +kernel) ⟨Nat.le_trans (by decide) hR1.1, Nat.le_trans (by decide) hR1.2⟩ (kd3_elementOf_ok (31, .invokevirtual 48, 3) (List.mem_of_getElem? (i := 20) rfl))) (am_all0)))
    exact hz _ (am_as_mem hq)
noncomputable def ki3_startTag : List (Nat × Option (List Nat) × Nat × (List am_V → List am_C → Prop) × am_M) := [(4, some [0, 1, 2, 3, 4, 5, 6, 7], 2, pr5_behindLetters, fm5_behindLetters), (10, some [0, 1, 2, 3, 4, 5, 6, 7], 2, pr5_sign, fm5_sign), (24, some [], 1, pr4_isBlank, fm4_isBlank), (52, some [0, 1, 2, 3, 4, 5, 6, 7], 3, pr3_elementOf, fm3_elementOf), (55, some [8], 2, pr1_enterTag, fm1_enterTag)]
noncomputable def kb3_startTag : am_B := (kd3_startTag, am_as kf3, hn_ty, fun _ => none, fun _ => none, am_as ki3_startTag, fun _ => none, 5, 5, (some .int))
noncomputable def fn3_startTag (x : qt5) (c : qt1) (p1 : Int32) : Int32 × qt1 := Classical.choose (⟨_, rfl⟩ : ∃ z : Int32 × qt1, z = (if (fn5_behindLetters x (p1 + (1 : Int32))) = (p1 + (1 : Int32)) then ((0 : Int32), c) else (if (fn4_isBlank (fn5_sign x (fn5_behindLetters x (p1 + (1 : Int32))))) = 0 then (if (fn5_sign x (fn5_behindLetters x (p1 + (1 : Int32)))) = (47 : Int32) then (((fn5_behindLetters x (p1 + (1 : Int32))) - p1), (fn1_enterTag c (fn3_elementOf x (p1 + (1 : Int32)) (fn5_behindLetters x (p1 + (1 : Int32)))))) else (if (fn5_sign x (fn5_behindLetters x (p1 + (1 : Int32)))) = (62 : Int32) then (((fn5_behindLetters x (p1 + (1 : Int32))) - p1), (fn1_enterTag c (fn3_elementOf x (p1 + (1 : Int32)) (fn5_behindLetters x (p1 + (1 : Int32)))))) else ((0 : Int32), c))) else (((fn5_behindLetters x (p1 + (1 : Int32))) - p1), (fn1_enterTag c (fn3_elementOf x (p1 + (1 : Int32)) (fn5_behindLetters x (p1 + (1 : Int32)))))))))
theorem fq3_startTag (x : qt5) (c : qt1) (p1 : Int32) : fn3_startTag x c p1 = (if (fn5_behindLetters x (p1 + (1 : Int32))) = (p1 + (1 : Int32)) then ((0 : Int32), c) else (if (fn4_isBlank (fn5_sign x (fn5_behindLetters x (p1 + (1 : Int32))))) = 0 then (if (fn5_sign x (fn5_behindLetters x (p1 + (1 : Int32)))) = (47 : Int32) then (((fn5_behindLetters x (p1 + (1 : Int32))) - p1), (fn1_enterTag c (fn3_elementOf x (p1 + (1 : Int32)) (fn5_behindLetters x (p1 + (1 : Int32)))))) else (if (fn5_sign x (fn5_behindLetters x (p1 + (1 : Int32)))) = (62 : Int32) then (((fn5_behindLetters x (p1 + (1 : Int32))) - p1), (fn1_enterTag c (fn3_elementOf x (p1 + (1 : Int32)) (fn5_behindLetters x (p1 + (1 : Int32)))))) else ((0 : Int32), c))) else (((fn5_behindLetters x (p1 + (1 : Int32))) - p1), (fn1_enterTag c (fn3_elementOf x (p1 + (1 : Int32)) (fn5_behindLetters x (p1 + (1 : Int32)))))))) := Classical.choose_spec (⟨_, rfl⟩ : ∃ z : Int32 × qt1, z = (if (fn5_behindLetters x (p1 + (1 : Int32))) = (p1 + (1 : Int32)) then ((0 : Int32), c) else (if (fn4_isBlank (fn5_sign x (fn5_behindLetters x (p1 + (1 : Int32))))) = 0 then (if (fn5_sign x (fn5_behindLetters x (p1 + (1 : Int32)))) = (47 : Int32) then (((fn5_behindLetters x (p1 + (1 : Int32))) - p1), (fn1_enterTag c (fn3_elementOf x (p1 + (1 : Int32)) (fn5_behindLetters x (p1 + (1 : Int32)))))) else (if (fn5_sign x (fn5_behindLetters x (p1 + (1 : Int32)))) = (62 : Int32) then (((fn5_behindLetters x (p1 + (1 : Int32))) - p1), (fn1_enterTag c (fn3_elementOf x (p1 + (1 : Int32)) (fn5_behindLetters x (p1 + (1 : Int32)))))) else ((0 : Int32), c))) else (((fn5_behindLetters x (p1 + (1 : Int32))) - p1), (fn1_enterTag c (fn3_elementOf x (p1 + (1 : Int32)) (fn5_behindLetters x (p1 + (1 : Int32)))))))))
def wp3_startTag (x : qt5) (c : qt1) (p1 : Int32) : Prop := ((wp5_behindLetters x (p1 + (1 : Int32))) ∧ ((wp5_sign x (fn5_behindLetters x (p1 + (1 : Int32)))) ∧ (((fn5_behindLetters x (p1 + (1 : Int32))) = (p1 + (1 : Int32)) → True) ∧ (¬ (fn5_behindLetters x (p1 + (1 : Int32))) = (p1 + (1 : Int32)) → ((wp4_isBlank (fn5_sign x (fn5_behindLetters x (p1 + (1 : Int32))))) ∧ (((fn4_isBlank (fn5_sign x (fn5_behindLetters x (p1 + (1 : Int32))))) = 0 → (((fn5_sign x (fn5_behindLetters x (p1 + (1 : Int32)))) = (47 : Int32) → ((wp3_elementOf x (p1 + (1 : Int32)) (fn5_behindLetters x (p1 + (1 : Int32)))) ∧ (wp1_enterTag c (fn3_elementOf x (p1 + (1 : Int32)) (fn5_behindLetters x (p1 + (1 : Int32))))))) ∧ (¬ (fn5_sign x (fn5_behindLetters x (p1 + (1 : Int32)))) = (47 : Int32) → (((fn5_sign x (fn5_behindLetters x (p1 + (1 : Int32)))) = (62 : Int32) → ((wp3_elementOf x (p1 + (1 : Int32)) (fn5_behindLetters x (p1 + (1 : Int32)))) ∧ (wp1_enterTag c (fn3_elementOf x (p1 + (1 : Int32)) (fn5_behindLetters x (p1 + (1 : Int32))))))) ∧ (¬ (fn5_sign x (fn5_behindLetters x (p1 + (1 : Int32)))) = (62 : Int32) → True))))) ∧ (¬ (fn4_isBlank (fn5_sign x (fn5_behindLetters x (p1 + (1 : Int32))))) = 0 → ((wp3_elementOf x (p1 + (1 : Int32)) (fn5_behindLetters x (p1 + (1 : Int32)))) ∧ (wp1_enterTag c (fn3_elementOf x (p1 + (1 : Int32)) (fn5_behindLetters x (p1 + (1 : Int32)))))))))))))
set_option maxRecDepth 100000 in
set_option maxHeartbeats 4000000 in
theorem re3_startTag (x : qt5) (c : qt1) (p1 : Int32) (hp : wp3_startTag x c p1) : am_lf (am_mk kb3_startTag 0 0 9) [] (0, am_L0 [.inr (.inl 0), .inl p1, .inr (.inl 8)] 5, [], (kw_SC x c), 0, 0) = some (some (.inl ((fn3_startTag x c p1).1)), (kw_SC x ((fn3_startTag x c p1).2))) := by
  unfold wp3_startTag at hp
  refine am_lf_eq ?_
  generalize am_lf (am_mk kb3_startTag 0 0 9) [] = kt
  refine am_cy (pre := pr5_behindLetters) (f := fm5_behindLetters) (a' := [.inr (.inl 0), .inl (p1 + (1 : Int32))]) (wc := (kw_S x)) (w' := (kw_SC x c)) (r := (some (.inl (fn5_behindLetters x (p1 + (1 : Int32)))), (kw_S x), 0, 0)) ?_ ?_ ?_ ?_ ?_ ?_ ?_ ?_ ?_ ?_
  · exact ks_SC_S_0_o x c
  · rfl
  · rfl
  · exact ks_SC_S_0_s x c
  · exact ⟨x, (p1 + (1 : Int32)), rfl, rfl, hp.1⟩
  · exact fe5_behindLetters x (p1 + (1 : Int32))
  · exact kwl_S x
  · rfl
  · exact ks_SC_S_0_m x c x
  refine am_cy (pre := pr5_sign) (f := fm5_sign) (a' := [.inr (.inl 0), .inl (fn5_behindLetters x (p1 + (1 : Int32)))]) (wc := (kw_S x)) (w' := (kw_SC x c)) (r := (some (.inl (fn5_sign x (fn5_behindLetters x (p1 + (1 : Int32))))), (kw_S x), 0, 0)) ?_ ?_ ?_ ?_ ?_ ?_ ?_ ?_ ?_ ?_
  · exact ks_SC_S_0_o x c
  · rfl
  · rfl
  · exact ks_SC_S_0_s x c
  · exact ⟨x, (fn5_behindLetters x (p1 + (1 : Int32))), rfl, rfl, hp.2.1⟩
  · exact fe5_sign x (fn5_behindLetters x (p1 + (1 : Int32)))
  · exact kwl_S x
  · rfl
  · exact ks_SC_S_0_m x c x
  refine am_if (c := (fn5_behindLetters x (p1 + (1 : Int32))) = (p1 + (1 : Int32))) (fun h1 => ?_) (fun h1 => ?_)
  · have e : fn3_startTag x c p1 = ((0 : Int32), c) := by
      rw [fq3_startTag]
      rw [if_pos h1]
    rw [e] <;> rfl
  · have q1 := hp.2.2.2 h1
    refine am_cy (pre := pr4_isBlank) (f := fm4_isBlank) (a' := [.inl (fn5_sign x (fn5_behindLetters x (p1 + (1 : Int32))))]) (wc := []) (w' := (kw_SC x c)) (r := (some (.inl (fn4_isBlank (fn5_sign x (fn5_behindLetters x (p1 + (1 : Int32)))))), [], 0, 0)) ?_ ?_ ?_ ?_ ?_ ?_ ?_ ?_ ?_ ?_
    · exact am_sow0 _
    · rfl
    · rfl
    · exact am_sub0 _
    · exact ⟨(fn5_sign x (fn5_behindLetters x (p1 + (1 : Int32)))), rfl, rfl, q1.1⟩
    · exact fe4_isBlank (fn5_sign x (fn5_behindLetters x (p1 + (1 : Int32))))
    · exact rfl
    · rfl
    · exact am_mix0 _
    refine am_if (c := (fn4_isBlank (fn5_sign x (fn5_behindLetters x (p1 + (1 : Int32))))) = 0) (fun h2 => ?_) (fun h2 => ?_)
    · have q2 := q1.2.1 h2
      refine am_if (c := (fn5_sign x (fn5_behindLetters x (p1 + (1 : Int32)))) = (47 : Int32)) (fun h3 => ?_) (fun h3 => ?_)
      · have q3 := q2.1 h3
        refine am_cy (pre := pr3_elementOf) (f := fm3_elementOf) (a' := [.inr (.inl 0), .inl (p1 + (1 : Int32)), .inl (fn5_behindLetters x (p1 + (1 : Int32)))]) (wc := (kw_S x)) (w' := (kw_SC x c)) (r := (some (.inl (fn3_elementOf x (p1 + (1 : Int32)) (fn5_behindLetters x (p1 + (1 : Int32))))), (kw_S x), 0, 0)) ?_ ?_ ?_ ?_ ?_ ?_ ?_ ?_ ?_ ?_
        · exact ks_SC_S_0_o x c
        · rfl
        · rfl
        · exact ks_SC_S_0_s x c
        · exact ⟨x, (p1 + (1 : Int32)), (fn5_behindLetters x (p1 + (1 : Int32))), rfl, rfl, q3.1⟩
        · exact fe3_elementOf x (p1 + (1 : Int32)) (fn5_behindLetters x (p1 + (1 : Int32)))
        · exact kwl_S x
        · rfl
        · exact ks_SC_S_0_m x c x
        refine am_cy (pre := pr1_enterTag) (f := fm1_enterTag) (a' := [.inr (.inl 0), .inl (fn3_elementOf x (p1 + (1 : Int32)) (fn5_behindLetters x (p1 + (1 : Int32))))]) (wc := (kw_C c)) (w' := (kw_SC x (fn1_enterTag c (fn3_elementOf x (p1 + (1 : Int32)) (fn5_behindLetters x (p1 + (1 : Int32))))))) (r := (none, (kw_C (fn1_enterTag c (fn3_elementOf x (p1 + (1 : Int32)) (fn5_behindLetters x (p1 + (1 : Int32)))))), 0, 0)) ?_ ?_ ?_ ?_ ?_ ?_ ?_ ?_ ?_ ?_
        · exact ks_SC_C_1_o x c
        · rfl
        · rfl
        · exact ks_SC_C_1_s x c
        · exact ⟨c, (fn3_elementOf x (p1 + (1 : Int32)) (fn5_behindLetters x (p1 + (1 : Int32)))), rfl, rfl, q3.2⟩
        · exact fe1_enterTag c (fn3_elementOf x (p1 + (1 : Int32)) (fn5_behindLetters x (p1 + (1 : Int32))))
        · exact kwl_C (fn1_enterTag c (fn3_elementOf x (p1 + (1 : Int32)) (fn5_behindLetters x (p1 + (1 : Int32)))))
        · rfl
        · exact ks_SC_C_1_m x c (fn1_enterTag c (fn3_elementOf x (p1 + (1 : Int32)) (fn5_behindLetters x (p1 + (1 : Int32)))))
        have e : fn3_startTag x c p1 = (((fn5_behindLetters x (p1 + (1 : Int32))) - p1), (fn1_enterTag c (fn3_elementOf x (p1 + (1 : Int32)) (fn5_behindLetters x (p1 + (1 : Int32)))))) := by
          rw [fq3_startTag]
          rw [if_neg h1, if_pos h2, if_pos h3]
        rw [e] <;> rfl
      · have q3 := q2.2 h3
        refine am_if (c := (fn5_sign x (fn5_behindLetters x (p1 + (1 : Int32)))) = (62 : Int32)) (fun h4 => ?_) (fun h4 => ?_)
        · have q4 := q3.1 h4
          refine am_cy (pre := pr3_elementOf) (f := fm3_elementOf) (a' := [.inr (.inl 0), .inl (p1 + (1 : Int32)), .inl (fn5_behindLetters x (p1 + (1 : Int32)))]) (wc := (kw_S x)) (w' := (kw_SC x c)) (r := (some (.inl (fn3_elementOf x (p1 + (1 : Int32)) (fn5_behindLetters x (p1 + (1 : Int32))))), (kw_S x), 0, 0)) ?_ ?_ ?_ ?_ ?_ ?_ ?_ ?_ ?_ ?_
          · exact ks_SC_S_0_o x c
          · rfl
          · rfl
          · exact ks_SC_S_0_s x c
          · exact ⟨x, (p1 + (1 : Int32)), (fn5_behindLetters x (p1 + (1 : Int32))), rfl, rfl, q4.1⟩
          · exact fe3_elementOf x (p1 + (1 : Int32)) (fn5_behindLetters x (p1 + (1 : Int32)))
          · exact kwl_S x
          · rfl
          · exact ks_SC_S_0_m x c x
          refine am_cy (pre := pr1_enterTag) (f := fm1_enterTag) (a' := [.inr (.inl 0), .inl (fn3_elementOf x (p1 + (1 : Int32)) (fn5_behindLetters x (p1 + (1 : Int32))))]) (wc := (kw_C c)) (w' := (kw_SC x (fn1_enterTag c (fn3_elementOf x (p1 + (1 : Int32)) (fn5_behindLetters x (p1 + (1 : Int32))))))) (r := (none, (kw_C (fn1_enterTag c (fn3_elementOf x (p1 + (1 : Int32)) (fn5_behindLetters x (p1 + (1 : Int32)))))), 0, 0)) ?_ ?_ ?_ ?_ ?_ ?_ ?_ ?_ ?_ ?_
          · exact ks_SC_C_1_o x c
          · rfl
          · rfl
          · exact ks_SC_C_1_s x c
          · exact ⟨c, (fn3_elementOf x (p1 + (1 : Int32)) (fn5_behindLetters x (p1 + (1 : Int32)))), rfl, rfl, q4.2⟩
          · exact fe1_enterTag c (fn3_elementOf x (p1 + (1 : Int32)) (fn5_behindLetters x (p1 + (1 : Int32))))
          · exact kwl_C (fn1_enterTag c (fn3_elementOf x (p1 + (1 : Int32)) (fn5_behindLetters x (p1 + (1 : Int32)))))
          · rfl
          · exact ks_SC_C_1_m x c (fn1_enterTag c (fn3_elementOf x (p1 + (1 : Int32)) (fn5_behindLetters x (p1 + (1 : Int32)))))
          have e : fn3_startTag x c p1 = (((fn5_behindLetters x (p1 + (1 : Int32))) - p1), (fn1_enterTag c (fn3_elementOf x (p1 + (1 : Int32)) (fn5_behindLetters x (p1 + (1 : Int32)))))) := by
            rw [fq3_startTag]
            rw [if_neg h1, if_pos h2, if_neg h3, if_pos h4]
          rw [e] <;> rfl
        · have e : fn3_startTag x c p1 = ((0 : Int32), c) := by
            rw [fq3_startTag]
            rw [if_neg h1, if_pos h2, if_neg h3, if_neg h4]
          rw [e] <;> rfl
    · have q2 := q1.2.2 h2
      refine am_cy (pre := pr3_elementOf) (f := fm3_elementOf) (a' := [.inr (.inl 0), .inl (p1 + (1 : Int32)), .inl (fn5_behindLetters x (p1 + (1 : Int32)))]) (wc := (kw_S x)) (w' := (kw_SC x c)) (r := (some (.inl (fn3_elementOf x (p1 + (1 : Int32)) (fn5_behindLetters x (p1 + (1 : Int32))))), (kw_S x), 0, 0)) ?_ ?_ ?_ ?_ ?_ ?_ ?_ ?_ ?_ ?_
      · exact ks_SC_S_0_o x c
      · rfl
      · rfl
      · exact ks_SC_S_0_s x c
      · exact ⟨x, (p1 + (1 : Int32)), (fn5_behindLetters x (p1 + (1 : Int32))), rfl, rfl, q2.1⟩
      · exact fe3_elementOf x (p1 + (1 : Int32)) (fn5_behindLetters x (p1 + (1 : Int32)))
      · exact kwl_S x
      · rfl
      · exact ks_SC_S_0_m x c x
      refine am_cy (pre := pr1_enterTag) (f := fm1_enterTag) (a' := [.inr (.inl 0), .inl (fn3_elementOf x (p1 + (1 : Int32)) (fn5_behindLetters x (p1 + (1 : Int32))))]) (wc := (kw_C c)) (w' := (kw_SC x (fn1_enterTag c (fn3_elementOf x (p1 + (1 : Int32)) (fn5_behindLetters x (p1 + (1 : Int32))))))) (r := (none, (kw_C (fn1_enterTag c (fn3_elementOf x (p1 + (1 : Int32)) (fn5_behindLetters x (p1 + (1 : Int32)))))), 0, 0)) ?_ ?_ ?_ ?_ ?_ ?_ ?_ ?_ ?_ ?_
      · exact ks_SC_C_1_o x c
      · rfl
      · rfl
      · exact ks_SC_C_1_s x c
      · exact ⟨c, (fn3_elementOf x (p1 + (1 : Int32)) (fn5_behindLetters x (p1 + (1 : Int32)))), rfl, rfl, q2.2⟩
      · exact fe1_enterTag c (fn3_elementOf x (p1 + (1 : Int32)) (fn5_behindLetters x (p1 + (1 : Int32))))
      · exact kwl_C (fn1_enterTag c (fn3_elementOf x (p1 + (1 : Int32)) (fn5_behindLetters x (p1 + (1 : Int32)))))
      · rfl
      · exact ks_SC_C_1_m x c (fn1_enterTag c (fn3_elementOf x (p1 + (1 : Int32)) (fn5_behindLetters x (p1 + (1 : Int32)))))
      have e : fn3_startTag x c p1 = (((fn5_behindLetters x (p1 + (1 : Int32))) - p1), (fn1_enterTag c (fn3_elementOf x (p1 + (1 : Int32)) (fn5_behindLetters x (p1 + (1 : Int32)))))) := by
        rw [fq3_startTag]
        rw [if_neg h1, if_neg h2]
      rw [e] <;> rfl
abbrev pr3_startTag : List am_V → List am_C → Prop := fun a w => ∃ (x : qt5) (c : qt1) (p1 : Int32), a = [.inr (.inl 0), .inl p1, .inr (.inl 8)] ∧ w = (kw_SC x c) ∧ wp3_startTag x c p1
noncomputable def fm3_startTag : am_M := fun a w => (fun (z : Int32 × qt1) => (some (.inl (z.1)), (kw_SC (qs5 w 0) (z.2)), 0, 0)) (fn3_startTag (qs5 w 0) (qs1 w 8) (am_i (am_an a 1)))
theorem fe3_startTag (x : qt5) (c : qt1) (p1 : Int32) : fm3_startTag [.inr (.inl 0), .inl p1, .inr (.inl 8)] (kw_SC x c) = (some (.inl ((fn3_startTag x c p1).1)), (kw_SC x ((fn3_startTag x c p1).2)), 0, 0) := rfl
set_option maxRecDepth 100000 in
set_option maxHeartbeats 4000000 in
theorem rn3_startTag : ∀ (a : List am_V) (w : List am_C), pr3_startTag a w → ∃ nq, am_ev (am_mk kb3_startTag (fm3_startTag a w).2.2.1 (fm3_startTag a w).2.2.2 w.length) [] nq (0, am_L0 a 5, [], w, 0, 0) = some ((fm3_startTag a w).1, (fm3_startTag a w).2.1) := by
  rintro a w ⟨x, c, p1, rfl, rfl, hp⟩
  rw [fe3_startTag x c p1]
  exact am_lf_ev (re3_startTag x c p1 hp)
theorem rl3_startTag : ∀ (a : List am_V) (w : List am_C), pr3_startTag a w → a.length ≤ 5 := by
  rintro a w ⟨x, c, p1, rfl, rfl, hp⟩
  exact Nat.le_of_ble_eq_true rfl
set_option maxRecDepth 100000 in
set_option maxHeartbeats 4000000 in
theorem km3_startTag {l : Launch} {E : (Nat → Prop) → State → Prop} {D : va_G} {ou : Nat → Nat} {ca : Nat → ClassId} (hE : hg_E E ou) : hg_Met l E D ou ca hy3_startTag prog_5_method_5_code 5 (some .int) 6 pr3_startTag fm3_startTag := by
  refine am_met (B := kb3_startTag) (cuts := []) (nt := 5) (by decide +kernel) rfl rfl (hg_tys_ok ca) ?_ (by decide) rl3_startTag ?_ rn3_startTag
  · exact fun t ht => List.mem_cons_of_mem _ (hg_arr t ht)
  · intro a w hp ad p e R s m args below meth c hR X hEs hnm
    have hR1 : 6 ≤ R.frames ∧ 240 ≤ R.locals := by rw [hR]; exact ⟨Nat.le_refl _, Nat.le_refl _⟩
    have hN := hE.2.1 _ _ hEs
    refine ⟨kd3_startTag_ok, fun index ci fi mode hq => kf3_ok X.2.2.2.2.1 hN.1 (index, ci, fi, mode) (am_as_mem hq), fun index ci fs hq => (am_no hq).elim, fun x v hq => (am_no hq).elim, ?_, fun o t n f hq => (am_no hq).elim, rfl, rfl, by rw [hR]; exact Nat.le_refl _, by rw [hR]; exact Nat.le_refl _⟩
    intro pc sel n0 pre0 f0 hq
    have hz : ∀ q ∈ ki3_startTag, am_CK p l e R s m args below meth c D hn_cl (va_A (am_w ad ou ca w) s.heap.size) ou ca 5 q.1 q.2.2.1 q.2.2.2.1 q.2.2.2.2 := by
      refine am_allc (am_ck_V (n := 1) X hEs hE.1 (km5_behindLetters hE) (hg_good (gw_mem 420 (by decide +kernel))) rfl (List.mem_cons_of_mem _ (gw_mem 73 (by decide +kernel))) (List.mem_cons_of_mem _ (gw_mem 417 (by decide +kernel))) (List.mem_cons_of_mem _ (gw_mem 418 (by decide +kernel))) (List.mem_cons_of_mem _ (gw_mem 419 (by decide +kernel))) pa5_behindLetters (by decide +kernel) ⟨Nat.le_trans (by decide) hR1.1, Nat.le_trans (by decide) hR1.2⟩ (kd3_startTag_ok (4, .invokevirtual 62, 3) (List.mem_of_getElem? (i := 4) rfl))) (am_allc (am_ck_V (n := 1) X hEs hE.1 (km5_sign hE) (hg_good (gw_mem 352 (by decide +kernel))) rfl (List.mem_cons_of_mem _ (gw_mem 73 (by decide +kernel))) (List.mem_cons_of_mem _ (gw_mem 349 (by decide +kernel))) (List.mem_cons_of_mem _ (gw_mem 350 (by decide +kernel))) (List.mem_cons_of_mem _ (gw_mem 351 (by decide +kernel))) pa5_sign (by decide +kernel) ⟨Nat.le_trans (by decide) hR1.1, Nat.le_trans (by decide) hR1.2⟩ (kd3_startTag_ok (10, .invokevirtual 36, 3) (List.mem_of_getElem? (i := 8) rfl))) (am_allc (am_ck_S (n := 1) X hEs hE.1 (km4_isBlank hE) (hg_good (gw_mem 429 (by decide +kernel))) rfl (List.mem_cons_of_mem _ (gw_mem 77 (by decide +kernel))) (List.mem_cons_of_mem _ (gw_mem 427 (by decide +kernel))) (List.mem_cons_of_mem _ (gw_mem 428 (by decide +kernel))) (by decide +kernel) ⟨Nat.le_trans (by decide) hR1.1, Nat.le_trans (by decide) hR1.2⟩ (kd3_startTag_ok (24, .invokestatic 66, 3) (List.mem_of_getElem? (i := 16) rfl))) (am_allc (am_ck_S (n := 3) X hEs hE.1 (km3_elementOf hE) (hg_good (gw_mem 432 (by decide +kernel))) rfl (List.mem_cons_of_mem _ (gw_mem 82 (by decide +kernel))) (List.mem_cons_of_mem _ (gw_mem 430 (by decide +kernel))) (List.mem_cons_of_mem _ (gw_mem 431 (by decide +kernel))) (by decide +kernel) ⟨Nat.le_trans (by decide) hR1.1, Nat.le_trans (by decide) hR1.2⟩ (kd3_startTag_ok (52, .invokestatic 72, 3) (List.mem_of_getElem? (i := 32) rfl))) (am_allc (am_ck_V (n := 1) X hEs hE.1 (km1_enterTag hE) (hg_good (gw_mem 439 (by decide +kernel))) rfl (List.mem_cons_of_mem _ (gw_mem 74 (by decide +kernel))) (List.mem_cons_of_mem _ (gw_mem 436 (by decide +kernel))) (List.mem_cons_of_mem _ (gw_mem 437 (by decide +kernel))) (List.mem_cons_of_mem _ (gw_mem 438 (by decide +kernel))) pa1_enterTag (by decide +kernel) ⟨Nat.le_trans (by decide) hR1.1, Nat.le_trans (by decide) hR1.2⟩ (kd3_startTag_ok (55, .invokevirtual 76, 3) (List.mem_of_getElem? (i := 33) rfl))) (am_all0)))))
    exact hz _ (am_as_mem hq)
noncomputable def ki3_inText : List (Nat × Option (List Nat) × Nat × (List am_V → List am_C → Prop) × am_M) := [(2, some [0, 1, 2, 3, 4, 5, 6, 7], 2, pr5_sign, fm5_sign), (12, some [0, 1, 2, 3, 4, 5, 6, 7], 2, pr3_ampersand, fm3_ampersand), (18, some [0, 1, 2, 3, 4, 5, 6, 7], 2, pr5_sign, fm5_sign), (35, some [0, 1, 2, 3, 4, 5, 6, 7], 4, pr5_spells, fm5_spells), (44, some [8], 2, pr1_enter, fm1_enter), (53, some [0, 1, 2, 3, 4, 5, 6, 7], 2, pr5_sign, fm5_sign), (63, some [0, 1, 2, 3, 4, 5, 6, 7], 2, pr3_endTag, fm3_endTag), (72, none, 3, pr3_startTag, fm3_startTag)]
def kc3_inText : List (Nat × am_V) := [(46, .inr (.inr (0 + 1)))]
noncomputable def kb3_inText : am_B := (kd3_inText, am_as kf3, hn_ty, fun _ => none, am_as kc3_inText, am_as ki3_inText, fun _ => none, 5, 3, (some .int))
noncomputable def fn3_inText (x : qt5) (c : qt1) (p1 : Int32) : Int32 × qt1 := Classical.choose (⟨_, rfl⟩ : ∃ z : Int32 × qt1, z = (if (fn5_sign x p1) = (38 : Int32) then ((fn3_ampersand x p1), c) else (if (fn5_sign x p1) = (60 : Int32) then (if (fn5_spells x p1 (p1 + (4 : Int32)) 0) = 0 then (if (fn5_sign x (p1 + (1 : Int32))) = (47 : Int32) then ((fn3_endTag x p1), c) else ((fn3_startTag x c p1).1, (fn3_startTag x c p1).2)) else ((4 : Int32), (fn1_enter c (6 : Int32)))) else ((1 : Int32), c))))
theorem fq3_inText (x : qt5) (c : qt1) (p1 : Int32) : fn3_inText x c p1 = (if (fn5_sign x p1) = (38 : Int32) then ((fn3_ampersand x p1), c) else (if (fn5_sign x p1) = (60 : Int32) then (if (fn5_spells x p1 (p1 + (4 : Int32)) 0) = 0 then (if (fn5_sign x (p1 + (1 : Int32))) = (47 : Int32) then ((fn3_endTag x p1), c) else ((fn3_startTag x c p1).1, (fn3_startTag x c p1).2)) else ((4 : Int32), (fn1_enter c (6 : Int32)))) else ((1 : Int32), c))) := Classical.choose_spec (⟨_, rfl⟩ : ∃ z : Int32 × qt1, z = (if (fn5_sign x p1) = (38 : Int32) then ((fn3_ampersand x p1), c) else (if (fn5_sign x p1) = (60 : Int32) then (if (fn5_spells x p1 (p1 + (4 : Int32)) 0) = 0 then (if (fn5_sign x (p1 + (1 : Int32))) = (47 : Int32) then ((fn3_endTag x p1), c) else ((fn3_startTag x c p1).1, (fn3_startTag x c p1).2)) else ((4 : Int32), (fn1_enter c (6 : Int32)))) else ((1 : Int32), c))))
def wp3_inText (x : qt5) (c : qt1) (p1 : Int32) : Prop := ((wp5_sign x p1) ∧ (((fn5_sign x p1) = (38 : Int32) → (wp3_ampersand x p1)) ∧ (¬ (fn5_sign x p1) = (38 : Int32) → ((wp5_sign x p1) ∧ (((fn5_sign x p1) = (60 : Int32) → ((wp5_spells x p1 (p1 + (4 : Int32)) 0) ∧ (((fn5_spells x p1 (p1 + (4 : Int32)) 0) = 0 → ((wp5_sign x (p1 + (1 : Int32))) ∧ (((fn5_sign x (p1 + (1 : Int32))) = (47 : Int32) → (wp3_endTag x p1)) ∧ (¬ (fn5_sign x (p1 + (1 : Int32))) = (47 : Int32) → (wp3_startTag x c p1))))) ∧ (¬ (fn5_spells x p1 (p1 + (4 : Int32)) 0) = 0 → (wp1_enter c (6 : Int32)))))) ∧ (¬ (fn5_sign x p1) = (60 : Int32) → True))))))
set_option maxRecDepth 100000 in
set_option maxHeartbeats 4000000 in
theorem re3_inText (x : qt5) (c : qt1) (p1 : Int32) (hp : wp3_inText x c p1) : am_lf (am_mk kb3_inText 0 0 9) [] (0, am_L0 [.inr (.inl 0), .inl p1, .inr (.inl 8)] 3, [], (kw_SC x c), 0, 0) = some (some (.inl ((fn3_inText x c p1).1)), (kw_SC x ((fn3_inText x c p1).2))) := by
  unfold wp3_inText at hp
  refine am_lf_eq ?_
  generalize am_lf (am_mk kb3_inText 0 0 9) [] = kt
  refine am_cy (pre := pr5_sign) (f := fm5_sign) (a' := [.inr (.inl 0), .inl p1]) (wc := (kw_S x)) (w' := (kw_SC x c)) (r := (some (.inl (fn5_sign x p1)), (kw_S x), 0, 0)) ?_ ?_ ?_ ?_ ?_ ?_ ?_ ?_ ?_ ?_
  · exact ks_SC_S_0_o x c
  · rfl
  · rfl
  · exact ks_SC_S_0_s x c
  · exact ⟨x, p1, rfl, rfl, hp.1⟩
  · exact fe5_sign x p1
  · exact kwl_S x
  · rfl
  · exact ks_SC_S_0_m x c x
  refine am_if (c := (fn5_sign x p1) = (38 : Int32)) (fun h1 => ?_) (fun h1 => ?_)
  · have q1 := hp.2.1 h1
    refine am_cy (pre := pr3_ampersand) (f := fm3_ampersand) (a' := [.inr (.inl 0), .inl p1]) (wc := (kw_S x)) (w' := (kw_SC x c)) (r := (some (.inl (fn3_ampersand x p1)), (kw_S x), 0, 0)) ?_ ?_ ?_ ?_ ?_ ?_ ?_ ?_ ?_ ?_
    · exact ks_SC_S_0_o x c
    · rfl
    · rfl
    · exact ks_SC_S_0_s x c
    · exact ⟨x, p1, rfl, rfl, q1⟩
    · exact fe3_ampersand x p1
    · exact kwl_S x
    · rfl
    · exact ks_SC_S_0_m x c x
    have e : fn3_inText x c p1 = ((fn3_ampersand x p1), c) := by
      rw [fq3_inText]
      rw [if_pos h1]
    rw [e] <;> rfl
  · have q1 := hp.2.2 h1
    refine am_cy (pre := pr5_sign) (f := fm5_sign) (a' := [.inr (.inl 0), .inl p1]) (wc := (kw_S x)) (w' := (kw_SC x c)) (r := (some (.inl (fn5_sign x p1)), (kw_S x), 0, 0)) ?_ ?_ ?_ ?_ ?_ ?_ ?_ ?_ ?_ ?_
    · exact ks_SC_S_0_o x c
    · rfl
    · rfl
    · exact ks_SC_S_0_s x c
    · exact ⟨x, p1, rfl, rfl, q1.1⟩
    · exact fe5_sign x p1
    · exact kwl_S x
    · rfl
    · exact ks_SC_S_0_m x c x
    refine am_if (c := (fn5_sign x p1) = (60 : Int32)) (fun h2 => ?_) (fun h2 => ?_)
    · have q2 := q1.2.1 h2
      refine am_cy (pre := pr5_spells) (f := fm5_spells) (a' := [.inr (.inl 0), .inl p1, .inl (p1 + (4 : Int32)), .inr (.inr (0 + 1))]) (wc := (kw_S x)) (w' := (kw_SC x c)) (r := (some (.inl (fn5_spells x p1 (p1 + (4 : Int32)) 0)), (kw_S x), 0, 0)) ?_ ?_ ?_ ?_ ?_ ?_ ?_ ?_ ?_ ?_
      · exact ks_SC_S_0_o x c
      · rfl
      · rfl
      · exact ks_SC_S_0_s x c
      · exact ⟨x, p1, (p1 + (4 : Int32)), 0, rfl, rfl, q2.1⟩
      · exact fe5_spells x p1 (p1 + (4 : Int32)) 0
      · exact kwl_S x
      · rfl
      · exact ks_SC_S_0_m x c x
      refine am_if (c := (fn5_spells x p1 (p1 + (4 : Int32)) 0) = 0) (fun h3 => ?_) (fun h3 => ?_)
      · have q3 := q2.2.1 h3
        refine am_cy (pre := pr5_sign) (f := fm5_sign) (a' := [.inr (.inl 0), .inl (p1 + (1 : Int32))]) (wc := (kw_S x)) (w' := (kw_SC x c)) (r := (some (.inl (fn5_sign x (p1 + (1 : Int32)))), (kw_S x), 0, 0)) ?_ ?_ ?_ ?_ ?_ ?_ ?_ ?_ ?_ ?_
        · exact ks_SC_S_0_o x c
        · rfl
        · rfl
        · exact ks_SC_S_0_s x c
        · exact ⟨x, (p1 + (1 : Int32)), rfl, rfl, q3.1⟩
        · exact fe5_sign x (p1 + (1 : Int32))
        · exact kwl_S x
        · rfl
        · exact ks_SC_S_0_m x c x
        refine am_if (c := (fn5_sign x (p1 + (1 : Int32))) = (47 : Int32)) (fun h4 => ?_) (fun h4 => ?_)
        · have q4 := q3.2.1 h4
          refine am_cy (pre := pr3_endTag) (f := fm3_endTag) (a' := [.inr (.inl 0), .inl p1]) (wc := (kw_S x)) (w' := (kw_SC x c)) (r := (some (.inl (fn3_endTag x p1)), (kw_S x), 0, 0)) ?_ ?_ ?_ ?_ ?_ ?_ ?_ ?_ ?_ ?_
          · exact ks_SC_S_0_o x c
          · rfl
          · rfl
          · exact ks_SC_S_0_s x c
          · exact ⟨x, p1, rfl, rfl, q4⟩
          · exact fe3_endTag x p1
          · exact kwl_S x
          · rfl
          · exact ks_SC_S_0_m x c x
          have e : fn3_inText x c p1 = ((fn3_endTag x p1), c) := by
            rw [fq3_inText]
            rw [if_neg h1, if_pos h2, if_pos h3, if_pos h4]
          rw [e] <;> rfl
        · have q4 := q3.2.2 h4
          refine am_cx (pre := pr3_startTag) (f := fm3_startTag) (r := (some (.inl ((fn3_startTag x c p1).1)), (kw_SC x ((fn3_startTag x c p1).2)), 0, 0)) ?_ ?_ ?_ ?_
          · exact ⟨x, c, p1, rfl, rfl, q4⟩
          · exact fe3_startTag x c p1
          · exact rfl
          have e : fn3_inText x c p1 = ((fn3_startTag x c p1).1, (fn3_startTag x c p1).2) := by
            rw [fq3_inText]
            rw [if_neg h1, if_pos h2, if_pos h3, if_neg h4]
          rw [e] <;> rfl
      · have q3 := q2.2.2 h3
        refine am_cy (pre := pr1_enter) (f := fm1_enter) (a' := [.inr (.inl 0), .inl (6 : Int32)]) (wc := (kw_C c)) (w' := (kw_SC x (fn1_enter c (6 : Int32)))) (r := (none, (kw_C (fn1_enter c (6 : Int32))), 0, 0)) ?_ ?_ ?_ ?_ ?_ ?_ ?_ ?_ ?_ ?_
        · exact ks_SC_C_1_o x c
        · rfl
        · rfl
        · exact ks_SC_C_1_s x c
        · exact ⟨c, (6 : Int32), rfl, rfl, q3⟩
        · exact fe1_enter c (6 : Int32)
        · exact kwl_C (fn1_enter c (6 : Int32))
        · rfl
        · exact ks_SC_C_1_m x c (fn1_enter c (6 : Int32))
        have e : fn3_inText x c p1 = ((4 : Int32), (fn1_enter c (6 : Int32))) := by
          rw [fq3_inText]
          rw [if_neg h1, if_pos h2, if_neg h3]
        rw [e] <;> rfl
    · have e : fn3_inText x c p1 = ((1 : Int32), c) := by
        rw [fq3_inText]
        rw [if_neg h1, if_neg h2]
      rw [e] <;> rfl
abbrev pr3_inText : List am_V → List am_C → Prop := fun a w => ∃ (x : qt5) (c : qt1) (p1 : Int32), a = [.inr (.inl 0), .inl p1, .inr (.inl 8)] ∧ w = (kw_SC x c) ∧ wp3_inText x c p1
noncomputable def fm3_inText : am_M := fun a w => (fun (z : Int32 × qt1) => (some (.inl (z.1)), (kw_SC (qs5 w 0) (z.2)), 0, 0)) (fn3_inText (qs5 w 0) (qs1 w 8) (am_i (am_an a 1)))
theorem fe3_inText (x : qt5) (c : qt1) (p1 : Int32) : fm3_inText [.inr (.inl 0), .inl p1, .inr (.inl 8)] (kw_SC x c) = (some (.inl ((fn3_inText x c p1).1)), (kw_SC x ((fn3_inText x c p1).2)), 0, 0) := rfl
set_option maxRecDepth 100000 in
set_option maxHeartbeats 4000000 in
theorem rn3_inText : ∀ (a : List am_V) (w : List am_C), pr3_inText a w → ∃ nq, am_ev (am_mk kb3_inText (fm3_inText a w).2.2.1 (fm3_inText a w).2.2.2 w.length) [] nq (0, am_L0 a 3, [], w, 0, 0) = some ((fm3_inText a w).1, (fm3_inText a w).2.1) := by
  rintro a w ⟨x, c, p1, rfl, rfl, hp⟩
  rw [fe3_inText x c p1]
  exact am_lf_ev (re3_inText x c p1 hp)
theorem rl3_inText : ∀ (a : List am_V) (w : List am_C), pr3_inText a w → a.length ≤ 3 := by
  rintro a w ⟨x, c, p1, rfl, rfl, hp⟩
  exact Nat.le_of_ble_eq_true rfl
set_option maxRecDepth 100000 in
set_option maxHeartbeats 4000000 in
theorem km3_inText {l : Launch} {E : (Nat → Prop) → State → Prop} {D : va_G} {ou : Nat → Nat} {ca : Nat → ClassId} (hE : hg_E E ou) : hg_Met l E D ou ca hy3_inText prog_5_method_3_code 3 (some .int) 7 pr3_inText fm3_inText := by
  refine am_met (B := kb3_inText) (cuts := []) (nt := 5) (by decide +kernel) rfl rfl (hg_tys_ok ca) ?_ (by decide) rl3_inText ?_ rn3_inText
  · exact fun t ht => List.mem_cons_of_mem _ (hg_arr t ht)
  · intro a w hp ad p e R s m args below meth c hR X hEs hnm
    have hR1 : 7 ≤ R.frames ∧ 280 ≤ R.locals := by rw [hR]; exact ⟨Nat.le_refl _, Nat.le_refl _⟩
    have hN := hE.2.1 _ _ hEs
    have hc : ∀ q ∈ kc3_inText, am_LK s hn_R3 args ou q.1 q.2 := am_allc (hg_lk hN.2 0 rfl) (am_all0)
    refine ⟨kd3_inText_ok, fun index ci fi mode hq => kf3_ok X.2.2.2.2.1 hN.1 (index, ci, fi, mode) (am_as_mem hq), fun index ci fs hq => (am_no hq).elim, fun x v hq => hc (x, v) (am_as_mem hq), ?_, fun o t n f hq => (am_no hq).elim, rfl, rfl, by rw [hR]; exact Nat.le_refl _, by rw [hR]; exact Nat.le_refl _⟩
    intro pc sel n0 pre0 f0 hq
    have hz : ∀ q ∈ ki3_inText, am_CK p l e R s m args below meth c D hn_cl (va_A (am_w ad ou ca w) s.heap.size) ou ca 3 q.1 q.2.2.1 q.2.2.2.1 q.2.2.2.2 := by
      refine am_allc (am_ck_V (n := 1) X hEs hE.1 (km5_sign hE) (hg_good (gw_mem 352 (by decide +kernel))) rfl (List.mem_cons_of_mem _ (gw_mem 73 (by decide +kernel))) (List.mem_cons_of_mem _ (gw_mem 349 (by decide +kernel))) (List.mem_cons_of_mem _ (gw_mem 350 (by decide +kernel))) (List.mem_cons_of_mem _ (gw_mem 351 (by decide +kernel))) pa5_sign (by decide +kernel) ⟨Nat.le_trans (by decide) hR1.1, Nat.le_trans (by decide) hR1.2⟩ (kd3_inText_ok (2, .invokevirtual 36, 3) (List.mem_of_getElem? (i := 2) rfl))) (am_allc (am_ck_S (n := 2) X hEs hE.1 (km3_ampersand hE) (hg_good (gw_mem 355 (by decide +kernel))) rfl (List.mem_cons_of_mem _ (gw_mem 82 (by decide +kernel))) (List.mem_cons_of_mem _ (gw_mem 353 (by decide +kernel))) (List.mem_cons_of_mem _ (gw_mem 354 (by decide +kernel))) (by decide +kernel) ⟨Nat.le_trans (by decide) hR1.1, Nat.le_trans (by decide) hR1.2⟩ (kd3_inText_ok (12, .invokestatic 42, 3) (List.mem_of_getElem? (i := 7) rfl))) (am_allc (am_ck_V (n := 1) X hEs hE.1 (km5_sign hE) (hg_good (gw_mem 352 (by decide +kernel))) rfl (List.mem_cons_of_mem _ (gw_mem 73 (by decide +kernel))) (List.mem_cons_of_mem _ (gw_mem 349 (by decide +kernel))) (List.mem_cons_of_mem _ (gw_mem 350 (by decide +kernel))) (List.mem_cons_of_mem _ (gw_mem 351 (by decide +kernel))) pa5_sign (by decide +kernel) ⟨Nat.le_trans (by decide) hR1.1, Nat.le_trans (by decide) hR1.2⟩ (kd3_inText_ok (18, .invokevirtual 36, 3) (List.mem_of_getElem? (i := 11) rfl))) (am_allc (am_ck_V (n := 3) X hEs hE.1 (km5_spells hE) (hg_good (gw_mem 363 (by decide +kernel))) rfl (List.mem_cons_of_mem _ (gw_mem 73 (by decide +kernel))) (List.mem_cons_of_mem _ (gw_mem 360 (by decide +kernel))) (List.mem_cons_of_mem _ (gw_mem 361 (by decide +kernel))) (List.mem_cons_of_mem _ (gw_mem 362 (by decide +kernel))) pa5_spells (by decide +kernel) ⟨Nat.le_trans (by decide) hR1.1, Nat.le_trans (by decide) hR1.2⟩ (kd3_inText_ok (35, .invokevirtual 48, 3) (List.mem_of_getElem? (i := 22) rfl))) (am_allc (am_ck_V (n := 1) X hEs hE.1 (km1_enter hE) (hg_good (gw_mem 334 (by decide +kernel))) rfl (List.mem_cons_of_mem _ (gw_mem 74 (by decide +kernel))) (List.mem_cons_of_mem _ (gw_mem 413 (by decide +kernel))) (List.mem_cons_of_mem _ (gw_mem 332 (by decide +kernel))) (List.mem_cons_of_mem _ (gw_mem 333 (by decide +kernel))) pa1_enter (by decide +kernel) ⟨Nat.le_trans (by decide) hR1.1, Nat.le_trans (by decide) hR1.2⟩ (kd3_inText_ok (44, .invokevirtual 52, 3) (List.mem_of_getElem? (i := 26) rfl))) (am_allc (am_ck_V (n := 1) X hEs hE.1 (km5_sign hE) (hg_good (gw_mem 352 (by decide +kernel))) rfl (List.mem_cons_of_mem _ (gw_mem 73 (by decide +kernel))) (List.mem_cons_of_mem _ (gw_mem 349 (by decide +kernel))) (List.mem_cons_of_mem _ (gw_mem 350 (by decide +kernel))) (List.mem_cons_of_mem _ (gw_mem 351 (by decide +kernel))) pa5_sign (by decide +kernel) ⟨Nat.le_trans (by decide) hR1.1, Nat.le_trans (by decide) hR1.2⟩ (kd3_inText_ok (53, .invokevirtual 36, 3) (List.mem_of_getElem? (i := 33) rfl))) (am_allc (am_ck_S (n := 2) X hEs hE.1 (km3_endTag hE) (hg_good (gw_mem 416 (by decide +kernel))) rfl (List.mem_cons_of_mem _ (gw_mem 82 (by decide +kernel))) (List.mem_cons_of_mem _ (gw_mem 414 (by decide +kernel))) (List.mem_cons_of_mem _ (gw_mem 415 (by decide +kernel))) (by decide +kernel) ⟨Nat.le_trans (by decide) hR1.1, Nat.le_trans (by decide) hR1.2⟩ (kd3_inText_ok (63, .invokestatic 56, 3) (List.mem_of_getElem? (i := 38) rfl))) (am_allc (am_ck_S (n := 3) X hEs hE.1 (km3_startTag hE) (hg_good (gw_mem 426 (by decide +kernel))) rfl (List.mem_cons_of_mem _ (gw_mem 82 (by decide +kernel))) (List.mem_cons_of_mem _ (gw_mem 424 (by decide +kernel))) (List.mem_cons_of_mem _ (gw_mem 425 (by decide +kernel))) (by decide +kernel) ⟨Nat.le_trans (by decide) hR1.1, Nat.le_trans (by decide) hR1.2⟩ (kd3_inText_ok (72, .invokestatic 59, 3) (List.mem_of_getElem? (i := 43) rfl))) (am_all0))))))))
    exact hz _ (am_as_mem hq)
noncomputable def ki3_kindOf : List (Nat × Option (List Nat) × Nat × (List am_V → List am_C → Prop) × am_M) := [(5, none, 4, pr5_spells, fm5_spells), (16, none, 4, pr5_spells, fm5_spells), (27, none, 4, pr5_spells, fm5_spells), (40, none, 4, pr5_spells, fm5_spells), (55, none, 4, pr5_spells, fm5_spells)]
def kc3_kindOf : List (Nat × am_V) := [(81, .inr (.inr (2 + 1))), (119, .inr (.inr (4 + 1))), (121, .inr (.inr (5 + 1))), (123, .inr (.inr (6 + 1))), (125, .inr (.inr (7 + 1)))]
noncomputable def kb3_kindOf : am_B := (kd3_kindOf, am_as kf3, hn_ty, fun _ => none, am_as kc3_kindOf, am_as ki3_kindOf, fun _ => none, 5, 3, (some .int))
noncomputable def fn3_kindOf (x : qt5) (p1 : Int32) (p2 : Int32) : Int32 := Classical.choose (⟨_, rfl⟩ : ∃ z : Int32, z = (if (fn5_spells x p1 p2 4) = 0 then (if (fn5_spells x p1 p2 5) = 0 then (if (fn5_spells x p1 p2 6) = 0 then (if (fn5_spells x p1 p2 2) = 0 then (if (fn5_spells x p1 (p1 + (2 : Int32)) 7) = 0 then (0 : Int32) else (2 : Int32)) else (3 : Int32)) else (1 : Int32)) else (1 : Int32)) else (1 : Int32)))
theorem fq3_kindOf (x : qt5) (p1 : Int32) (p2 : Int32) : fn3_kindOf x p1 p2 = (if (fn5_spells x p1 p2 4) = 0 then (if (fn5_spells x p1 p2 5) = 0 then (if (fn5_spells x p1 p2 6) = 0 then (if (fn5_spells x p1 p2 2) = 0 then (if (fn5_spells x p1 (p1 + (2 : Int32)) 7) = 0 then (0 : Int32) else (2 : Int32)) else (3 : Int32)) else (1 : Int32)) else (1 : Int32)) else (1 : Int32)) := Classical.choose_spec (⟨_, rfl⟩ : ∃ z : Int32, z = (if (fn5_spells x p1 p2 4) = 0 then (if (fn5_spells x p1 p2 5) = 0 then (if (fn5_spells x p1 p2 6) = 0 then (if (fn5_spells x p1 p2 2) = 0 then (if (fn5_spells x p1 (p1 + (2 : Int32)) 7) = 0 then (0 : Int32) else (2 : Int32)) else (3 : Int32)) else (1 : Int32)) else (1 : Int32)) else (1 : Int32)))
def wp3_kindOf (x : qt5) (p1 : Int32) (p2 : Int32) : Prop := ((wp5_spells x p1 p2 4) ∧ (((fn5_spells x p1 p2 4) = 0 → ((wp5_spells x p1 p2 5) ∧ (((fn5_spells x p1 p2 5) = 0 → ((wp5_spells x p1 p2 6) ∧ (((fn5_spells x p1 p2 6) = 0 → ((wp5_spells x p1 p2 2) ∧ (((fn5_spells x p1 p2 2) = 0 → (wp5_spells x p1 (p1 + (2 : Int32)) 7)) ∧ (¬ (fn5_spells x p1 p2 2) = 0 → True)))) ∧ (¬ (fn5_spells x p1 p2 6) = 0 → True)))) ∧ (¬ (fn5_spells x p1 p2 5) = 0 → True)))) ∧ (¬ (fn5_spells x p1 p2 4) = 0 → True)))
set_option maxRecDepth 100000 in
set_option maxHeartbeats 4000000 in
theorem re3_kindOf (x : qt5) (p1 : Int32) (p2 : Int32) (hp : wp3_kindOf x p1 p2) : am_lf (am_mk kb3_kindOf 0 0 8) [] (0, am_L0 [.inr (.inl 0), .inl p1, .inl p2] 3, [], (kw_S x), 0, 0) = some (some (.inl (fn3_kindOf x p1 p2)), (kw_S x)) := by
  unfold wp3_kindOf at hp
  refine am_lf_eq ?_
  generalize am_lf (am_mk kb3_kindOf 0 0 8) [] = kt
  refine am_cx (pre := pr5_spells) (f := fm5_spells) (r := (some (.inl (fn5_spells x p1 p2 4)), (kw_S x), 0, 0)) ?_ ?_ ?_ ?_
  · exact ⟨x, p1, p2, 4, rfl, rfl, hp.1⟩
  · exact fe5_spells x p1 p2 4
  · exact rfl
  refine am_if (c := (fn5_spells x p1 p2 4) = 0) (fun h1 => ?_) (fun h1 => ?_)
  · have q1 := hp.2.1 h1
    refine am_cx (pre := pr5_spells) (f := fm5_spells) (r := (some (.inl (fn5_spells x p1 p2 5)), (kw_S x), 0, 0)) ?_ ?_ ?_ ?_
    · exact ⟨x, p1, p2, 5, rfl, rfl, q1.1⟩
    · exact fe5_spells x p1 p2 5
    · exact rfl
    refine am_if (c := (fn5_spells x p1 p2 5) = 0) (fun h2 => ?_) (fun h2 => ?_)
    · have q2 := q1.2.1 h2
      refine am_cx (pre := pr5_spells) (f := fm5_spells) (r := (some (.inl (fn5_spells x p1 p2 6)), (kw_S x), 0, 0)) ?_ ?_ ?_ ?_
      · exact ⟨x, p1, p2, 6, rfl, rfl, q2.1⟩
      · exact fe5_spells x p1 p2 6
      · exact rfl
      refine am_if (c := (fn5_spells x p1 p2 6) = 0) (fun h3 => ?_) (fun h3 => ?_)
      · have q3 := q2.2.1 h3
        refine am_cx (pre := pr5_spells) (f := fm5_spells) (r := (some (.inl (fn5_spells x p1 p2 2)), (kw_S x), 0, 0)) ?_ ?_ ?_ ?_
        · exact ⟨x, p1, p2, 2, rfl, rfl, q3.1⟩
        · exact fe5_spells x p1 p2 2
        · exact rfl
        refine am_if (c := (fn5_spells x p1 p2 2) = 0) (fun h4 => ?_) (fun h4 => ?_)
        · have q4 := q3.2.1 h4
          refine am_cx (pre := pr5_spells) (f := fm5_spells) (r := (some (.inl (fn5_spells x p1 (p1 + (2 : Int32)) 7)), (kw_S x), 0, 0)) ?_ ?_ ?_ ?_
          · exact ⟨x, p1, (p1 + (2 : Int32)), 7, rfl, rfl, q4⟩
          · exact fe5_spells x p1 (p1 + (2 : Int32)) 7
          · exact rfl
          refine am_if (c := (fn5_spells x p1 (p1 + (2 : Int32)) 7) = 0) (fun h5 => ?_) (fun h5 => ?_)
          · have e : fn3_kindOf x p1 p2 = (0 : Int32) := by
              rw [fq3_kindOf]
              rw [if_pos h1, if_pos h2, if_pos h3, if_pos h4, if_pos h5]
            rw [e] <;> rfl
          · have e : fn3_kindOf x p1 p2 = (2 : Int32) := by
              rw [fq3_kindOf]
              rw [if_pos h1, if_pos h2, if_pos h3, if_pos h4, if_neg h5]
            rw [e] <;> rfl
        · have e : fn3_kindOf x p1 p2 = (3 : Int32) := by
            rw [fq3_kindOf]
            rw [if_pos h1, if_pos h2, if_pos h3, if_neg h4]
          rw [e] <;> rfl
      · have e : fn3_kindOf x p1 p2 = (1 : Int32) := by
          rw [fq3_kindOf]
          rw [if_pos h1, if_pos h2, if_neg h3]
        rw [e] <;> rfl
    · have e : fn3_kindOf x p1 p2 = (1 : Int32) := by
        rw [fq3_kindOf]
        rw [if_pos h1, if_neg h2]
      rw [e] <;> rfl
  · have e : fn3_kindOf x p1 p2 = (1 : Int32) := by
      rw [fq3_kindOf]
      rw [if_neg h1]
    rw [e] <;> rfl
abbrev pr3_kindOf : List am_V → List am_C → Prop := fun a w => ∃ (x : qt5) (p1 : Int32) (p2 : Int32), a = [.inr (.inl 0), .inl p1, .inl p2] ∧ w = (kw_S x) ∧ wp3_kindOf x p1 p2
noncomputable def fm3_kindOf : am_M := fun a w => (fun (z : Int32) => (some (.inl z), (kw_S (qs5 w 0)), 0, 0)) (fn3_kindOf (qs5 w 0) (am_i (am_an a 1)) (am_i (am_an a 2)))
theorem fe3_kindOf (x : qt5) (p1 : Int32) (p2 : Int32) : fm3_kindOf [.inr (.inl 0), .inl p1, .inl p2] (kw_S x) = (some (.inl (fn3_kindOf x p1 p2)), (kw_S x), 0, 0) := rfl
set_option maxRecDepth 100000 in
set_option maxHeartbeats 4000000 in
theorem rn3_kindOf : ∀ (a : List am_V) (w : List am_C), pr3_kindOf a w → ∃ nq, am_ev (am_mk kb3_kindOf (fm3_kindOf a w).2.2.1 (fm3_kindOf a w).2.2.2 w.length) [] nq (0, am_L0 a 3, [], w, 0, 0) = some ((fm3_kindOf a w).1, (fm3_kindOf a w).2.1) := by
  rintro a w ⟨x, p1, p2, rfl, rfl, hp⟩
  rw [fe3_kindOf x p1 p2]
  exact am_lf_ev (re3_kindOf x p1 p2 hp)
theorem rl3_kindOf : ∀ (a : List am_V) (w : List am_C), pr3_kindOf a w → a.length ≤ 3 := by
  rintro a w ⟨x, p1, p2, rfl, rfl, hp⟩
  exact Nat.le_of_ble_eq_true rfl
set_option maxRecDepth 100000 in
set_option maxHeartbeats 4000000 in
theorem km3_kindOf {l : Launch} {E : (Nat → Prop) → State → Prop} {D : va_G} {ou : Nat → Nat} {ca : Nat → ClassId} (hE : hg_E E ou) : hg_Met l E D ou ca hy3_kindOf prog_5_method_11_code 3 (some .int) 5 pr3_kindOf fm3_kindOf := by
  refine am_met (B := kb3_kindOf) (cuts := []) (nt := 5) (by decide +kernel) rfl rfl (hg_tys_ok ca) ?_ (by decide) rl3_kindOf ?_ rn3_kindOf
  · exact fun t ht => List.mem_cons_of_mem _ (hg_arr t ht)
  · intro a w hp ad p e R s m args below meth c hR X hEs hnm
    have hR1 : 5 ≤ R.frames ∧ 200 ≤ R.locals := by rw [hR]; exact ⟨Nat.le_refl _, Nat.le_refl _⟩
    have hN := hE.2.1 _ _ hEs
    have hc : ∀ q ∈ kc3_kindOf, am_LK s hn_R3 args ou q.1 q.2 := am_allc (hg_lk hN.2 2 rfl) (am_allc (hg_lk hN.2 4 rfl) (am_allc (hg_lk hN.2 5 rfl) (am_allc (hg_lk hN.2 6 rfl) (am_allc (hg_lk hN.2 7 rfl) (am_all0)))))
    refine ⟨kd3_kindOf_ok, fun index ci fi mode hq => kf3_ok X.2.2.2.2.1 hN.1 (index, ci, fi, mode) (am_as_mem hq), fun index ci fs hq => (am_no hq).elim, fun x v hq => hc (x, v) (am_as_mem hq), ?_, fun o t n f hq => (am_no hq).elim, rfl, rfl, by rw [hR]; exact Nat.le_refl _, by rw [hR]; exact Nat.le_refl _⟩
    intro pc sel n0 pre0 f0 hq
    have hz : ∀ q ∈ ki3_kindOf, am_CK p l e R s m args below meth c D hn_cl (va_A (am_w ad ou ca w) s.heap.size) ou ca 3 q.1 q.2.2.1 q.2.2.2.1 q.2.2.2.2 := by
      refine am_allc (am_ck_V (n := 3) X hEs hE.1 (km5_spells hE) (hg_good (gw_mem 363 (by decide +kernel))) rfl (List.mem_cons_of_mem _ (gw_mem 73 (by decide +kernel))) (List.mem_cons_of_mem _ (gw_mem 360 (by decide +kernel))) (List.mem_cons_of_mem _ (gw_mem 361 (by decide +kernel))) (List.mem_cons_of_mem _ (gw_mem 362 (by decide +kernel))) pa5_spells (by decide +kernel) ⟨Nat.le_trans (by decide) hR1.1, Nat.le_trans (by decide) hR1.2⟩ (kd3_kindOf_ok (5, .invokevirtual 48, 3) (List.mem_of_getElem? (i := 4) rfl))) (am_allc (am_ck_V (n := 3) X hEs hE.1 (km5_spells hE) (hg_good (gw_mem 363 (by decide +kernel))) rfl (List.mem_cons_of_mem _ (gw_mem 73 (by decide +kernel))) (List.mem_cons_of_mem _ (gw_mem 360 (by decide +kernel))) (List.mem_cons_of_mem _ (gw_mem 361 (by decide +kernel))) (List.mem_cons_of_mem _ (gw_mem 362 (by decide +kernel))) pa5_spells (by decide +kernel) ⟨Nat.le_trans (by decide) hR1.1, Nat.le_trans (by decide) hR1.2⟩ (kd3_kindOf_ok (16, .invokevirtual 48, 3) (List.mem_of_getElem? (i := 10) rfl))) (am_allc (am_ck_V (n := 3) X hEs hE.1 (km5_spells hE) (hg_good (gw_mem 363 (by decide +kernel))) rfl (List.mem_cons_of_mem _ (gw_mem 73 (by decide +kernel))) (List.mem_cons_of_mem _ (gw_mem 360 (by decide +kernel))) (List.mem_cons_of_mem _ (gw_mem 361 (by decide +kernel))) (List.mem_cons_of_mem _ (gw_mem 362 (by decide +kernel))) pa5_spells (by decide +kernel) ⟨Nat.le_trans (by decide) hR1.1, Nat.le_trans (by decide) hR1.2⟩ (kd3_kindOf_ok (27, .invokevirtual 48, 3) (List.mem_of_getElem? (i := 16) rfl))) (am_allc (am_ck_V (n := 3) X hEs hE.1 (km5_spells hE) (hg_good (gw_mem 363 (by decide +kernel))) rfl (List.mem_cons_of_mem _ (gw_mem 73 (by decide +kernel))) (List.mem_cons_of_mem _ (gw_mem 360 (by decide +kernel))) (List.mem_cons_of_mem _ (gw_mem 361 (by decide +kernel))) (List.mem_cons_of_mem _ (gw_mem 362 (by decide +kernel))) pa5_spells (by decide +kernel) ⟨Nat.le_trans (by decide) hR1.1, Nat.le_trans (by decide) hR1.2⟩ (kd3_kindOf_ok (40, .invokevirtual 48, 3) (List.mem_of_getElem? (i := 24) rfl))) (am_allc (am_ck_V (n := 3) X hEs hE.1 (km5_spells hE) (hg_good (gw_mem 363 (by decide +kernel))) rfl (List.mem_cons_of_mem _ (gw_mem 73 (by decide +kernel))) (List.mem_cons_of_mem _ (gw_mem 360 (by decide +kernel))) (List.mem_cons_of_mem _ (gw_mem 361 (by decide +kernel))) (List.mem_cons_of_mem _ (gw_mem 362 (by decide +kernel))) pa5_spells (by decide +kernel) ⟨Nat.le_trans (by decide) hR1.1, Nat.le_trans (by decide) hR1.2⟩ (kd3_kindOf_ok (55, .invokevirtual 48, 3) (List.mem_of_getElem? (i := 34) rfl))) (am_all0)))))
    exact hz _ (am_as_mem hq)
noncomputable def ki3_attribute : List (Nat × Option (List Nat) × Nat × (List am_V → List am_C → Prop) × am_M) := [(2, some [0, 1, 2, 3, 4, 5, 6, 7], 2, pr5_behindName, fm5_behindName), (8, some [0, 1, 2, 3, 4, 5, 6, 7], 2, pr5_behindBlanks, fm5_behindBlanks), (16, some [0, 1, 2, 3, 4, 5, 6, 7], 2, pr5_sign, fm5_sign), (62, some [0, 1, 2, 3, 4, 5, 6, 7], 2, pr5_behindBlanks, fm5_behindBlanks), (70, some [0, 1, 2, 3, 4, 5, 6, 7], 2, pr5_sign, fm5_sign), (77, some [], 1, pr4_isQuote, fm4_isQuote), (91, some [0, 1, 2, 3, 4, 5, 6, 7], 3, pr3_kindOf, fm3_kindOf), (94, some [8], 3, pr1_enterValue, fm1_enterValue)]
noncomputable def kb3_attribute : am_B := (kd3_attribute, am_as kf3, hn_ty, fun _ => none, fun _ => none, am_as ki3_attribute, fun _ => none, 5, 8, (some .int))
noncomputable def fn3_attribute (x : qt5) (c : qt1) (p1 : Int32) : Int32 × qt1 := Classical.choose (⟨_, rfl⟩ : ∃ z : Int32 × qt1, z = (if (fn5_sign x (fn5_behindBlanks x (fn5_behindName x p1))) = (61 : Int32) then (if (fn4_isQuote (fn5_sign x (fn5_behindBlanks x ((fn5_behindBlanks x (fn5_behindName x p1)) + (1 : Int32))))) = 0 then ((0 : Int32), c) else ((((fn5_behindBlanks x ((fn5_behindBlanks x (fn5_behindName x p1)) + (1 : Int32))) + (1 : Int32)) - p1), (fn1_enterValue c (fn5_sign x (fn5_behindBlanks x ((fn5_behindBlanks x (fn5_behindName x p1)) + (1 : Int32)))) (fn3_kindOf x p1 (fn5_behindName x p1))))) else (if (fn5_behindName x p1) < (fn5_behindBlanks x (fn5_behindName x p1)) then (((fn5_behindBlanks x (fn5_behindName x p1)) - p1), c) else (if (fn5_sign x (fn5_behindBlanks x (fn5_behindName x p1))) = (47 : Int32) then (((fn5_behindBlanks x (fn5_behindName x p1)) - p1), c) else (if (fn5_sign x (fn5_behindBlanks x (fn5_behindName x p1))) = (62 : Int32) then (((fn5_behindBlanks x (fn5_behindName x p1)) - p1), c) else ((0 : Int32), c))))))
theorem fq3_attribute (x : qt5) (c : qt1) (p1 : Int32) : fn3_attribute x c p1 = (if (fn5_sign x (fn5_behindBlanks x (fn5_behindName x p1))) = (61 : Int32) then (if (fn4_isQuote (fn5_sign x (fn5_behindBlanks x ((fn5_behindBlanks x (fn5_behindName x p1)) + (1 : Int32))))) = 0 then ((0 : Int32), c) else ((((fn5_behindBlanks x ((fn5_behindBlanks x (fn5_behindName x p1)) + (1 : Int32))) + (1 : Int32)) - p1), (fn1_enterValue c (fn5_sign x (fn5_behindBlanks x ((fn5_behindBlanks x (fn5_behindName x p1)) + (1 : Int32)))) (fn3_kindOf x p1 (fn5_behindName x p1))))) else (if (fn5_behindName x p1) < (fn5_behindBlanks x (fn5_behindName x p1)) then (((fn5_behindBlanks x (fn5_behindName x p1)) - p1), c) else (if (fn5_sign x (fn5_behindBlanks x (fn5_behindName x p1))) = (47 : Int32) then (((fn5_behindBlanks x (fn5_behindName x p1)) - p1), c) else (if (fn5_sign x (fn5_behindBlanks x (fn5_behindName x p1))) = (62 : Int32) then (((fn5_behindBlanks x (fn5_behindName x p1)) - p1), c) else ((0 : Int32), c))))) := Classical.choose_spec (⟨_, rfl⟩ : ∃ z : Int32 × qt1, z = (if (fn5_sign x (fn5_behindBlanks x (fn5_behindName x p1))) = (61 : Int32) then (if (fn4_isQuote (fn5_sign x (fn5_behindBlanks x ((fn5_behindBlanks x (fn5_behindName x p1)) + (1 : Int32))))) = 0 then ((0 : Int32), c) else ((((fn5_behindBlanks x ((fn5_behindBlanks x (fn5_behindName x p1)) + (1 : Int32))) + (1 : Int32)) - p1), (fn1_enterValue c (fn5_sign x (fn5_behindBlanks x ((fn5_behindBlanks x (fn5_behindName x p1)) + (1 : Int32)))) (fn3_kindOf x p1 (fn5_behindName x p1))))) else (if (fn5_behindName x p1) < (fn5_behindBlanks x (fn5_behindName x p1)) then (((fn5_behindBlanks x (fn5_behindName x p1)) - p1), c) else (if (fn5_sign x (fn5_behindBlanks x (fn5_behindName x p1))) = (47 : Int32) then (((fn5_behindBlanks x (fn5_behindName x p1)) - p1), c) else (if (fn5_sign x (fn5_behindBlanks x (fn5_behindName x p1))) = (62 : Int32) then (((fn5_behindBlanks x (fn5_behindName x p1)) - p1), c) else ((0 : Int32), c))))))
def wp3_attribute (x : qt5) (c : qt1) (p1 : Int32) : Prop := ((wp5_behindName x p1) ∧ ((wp5_behindBlanks x (fn5_behindName x p1)) ∧ ((wp5_sign x (fn5_behindBlanks x (fn5_behindName x p1))) ∧ (((fn5_sign x (fn5_behindBlanks x (fn5_behindName x p1))) = (61 : Int32) → ((wp5_behindBlanks x ((fn5_behindBlanks x (fn5_behindName x p1)) + (1 : Int32))) ∧ ((wp5_sign x (fn5_behindBlanks x ((fn5_behindBlanks x (fn5_behindName x p1)) + (1 : Int32)))) ∧ ((wp4_isQuote (fn5_sign x (fn5_behindBlanks x ((fn5_behindBlanks x (fn5_behindName x p1)) + (1 : Int32))))) ∧ (((fn4_isQuote (fn5_sign x (fn5_behindBlanks x ((fn5_behindBlanks x (fn5_behindName x p1)) + (1 : Int32))))) = 0 → True) ∧ (¬ (fn4_isQuote (fn5_sign x (fn5_behindBlanks x ((fn5_behindBlanks x (fn5_behindName x p1)) + (1 : Int32))))) = 0 → ((wp3_kindOf x p1 (fn5_behindName x p1)) ∧ (wp1_enterValue c (fn5_sign x (fn5_behindBlanks x ((fn5_behindBlanks x (fn5_behindName x p1)) + (1 : Int32)))) (fn3_kindOf x p1 (fn5_behindName x p1)))))))))) ∧ (¬ (fn5_sign x (fn5_behindBlanks x (fn5_behindName x p1))) = (61 : Int32) → True)))))
set_option maxRecDepth 100000 in
set_option maxHeartbeats 4000000 in
theorem re3_attribute (x : qt5) (c : qt1) (p1 : Int32) (hp : wp3_attribute x c p1) : am_lf (am_mk kb3_attribute 0 0 9) [] (0, am_L0 [.inr (.inl 0), .inl p1, .inr (.inl 8)] 8, [], (kw_SC x c), 0, 0) = some (some (.inl ((fn3_attribute x c p1).1)), (kw_SC x ((fn3_attribute x c p1).2))) := by
  unfold wp3_attribute at hp
  refine am_lf_eq ?_
  generalize am_lf (am_mk kb3_attribute 0 0 9) [] = kt
  refine am_cy (pre := pr5_behindName) (f := fm5_behindName) (a' := [.inr (.inl 0), .inl p1]) (wc := (kw_S x)) (w' := (kw_SC x c)) (r := (some (.inl (fn5_behindName x p1)), (kw_S x), 0, 0)) ?_ ?_ ?_ ?_ ?_ ?_ ?_ ?_ ?_ ?_
  · exact ks_SC_S_0_o x c
  · rfl
  · rfl
  · exact ks_SC_S_0_s x c
  · exact ⟨x, p1, rfl, rfl, hp.1⟩
  · exact fe5_behindName x p1
  · exact kwl_S x
  · rfl
  · exact ks_SC_S_0_m x c x
  refine am_cy (pre := pr5_behindBlanks) (f := fm5_behindBlanks) (a' := [.inr (.inl 0), .inl (fn5_behindName x p1)]) (wc := (kw_S x)) (w' := (kw_SC x c)) (r := (some (.inl (fn5_behindBlanks x (fn5_behindName x p1))), (kw_S x), 0, 0)) ?_ ?_ ?_ ?_ ?_ ?_ ?_ ?_ ?_ ?_
  · exact ks_SC_S_0_o x c
  · rfl
  · rfl
  · exact ks_SC_S_0_s x c
  · exact ⟨x, (fn5_behindName x p1), rfl, rfl, hp.2.1⟩
  · exact fe5_behindBlanks x (fn5_behindName x p1)
  · exact kwl_S x
  · rfl
  · exact ks_SC_S_0_m x c x
  refine am_cy (pre := pr5_sign) (f := fm5_sign) (a' := [.inr (.inl 0), .inl (fn5_behindBlanks x (fn5_behindName x p1))]) (wc := (kw_S x)) (w' := (kw_SC x c)) (r := (some (.inl (fn5_sign x (fn5_behindBlanks x (fn5_behindName x p1)))), (kw_S x), 0, 0)) ?_ ?_ ?_ ?_ ?_ ?_ ?_ ?_ ?_ ?_
  · exact ks_SC_S_0_o x c
  · rfl
  · rfl
  · exact ks_SC_S_0_s x c
  · exact ⟨x, (fn5_behindBlanks x (fn5_behindName x p1)), rfl, rfl, hp.2.2.1⟩
  · exact fe5_sign x (fn5_behindBlanks x (fn5_behindName x p1))
  · exact kwl_S x
  · rfl
  · exact ks_SC_S_0_m x c x
  refine am_if (c := (fn5_sign x (fn5_behindBlanks x (fn5_behindName x p1))) = (61 : Int32)) (fun h1 => ?_) (fun h1 => ?_)
  · have q1 := hp.2.2.2.1 h1
    refine am_cy (pre := pr5_behindBlanks) (f := fm5_behindBlanks) (a' := [.inr (.inl 0), .inl ((fn5_behindBlanks x (fn5_behindName x p1)) + (1 : Int32))]) (wc := (kw_S x)) (w' := (kw_SC x c)) (r := (some (.inl (fn5_behindBlanks x ((fn5_behindBlanks x (fn5_behindName x p1)) + (1 : Int32)))), (kw_S x), 0, 0)) ?_ ?_ ?_ ?_ ?_ ?_ ?_ ?_ ?_ ?_
    · exact ks_SC_S_0_o x c
    · rfl
    · rfl
    · exact ks_SC_S_0_s x c
    · exact ⟨x, ((fn5_behindBlanks x (fn5_behindName x p1)) + (1 : Int32)), rfl, rfl, q1.1⟩
    · exact fe5_behindBlanks x ((fn5_behindBlanks x (fn5_behindName x p1)) + (1 : Int32))
    · exact kwl_S x
    · rfl
    · exact ks_SC_S_0_m x c x
    refine am_cy (pre := pr5_sign) (f := fm5_sign) (a' := [.inr (.inl 0), .inl (fn5_behindBlanks x ((fn5_behindBlanks x (fn5_behindName x p1)) + (1 : Int32)))]) (wc := (kw_S x)) (w' := (kw_SC x c)) (r := (some (.inl (fn5_sign x (fn5_behindBlanks x ((fn5_behindBlanks x (fn5_behindName x p1)) + (1 : Int32))))), (kw_S x), 0, 0)) ?_ ?_ ?_ ?_ ?_ ?_ ?_ ?_ ?_ ?_
    · exact ks_SC_S_0_o x c
    · rfl
    · rfl
    · exact ks_SC_S_0_s x c
    · exact ⟨x, (fn5_behindBlanks x ((fn5_behindBlanks x (fn5_behindName x p1)) + (1 : Int32))), rfl, rfl, q1.2.1⟩
    · exact fe5_sign x (fn5_behindBlanks x ((fn5_behindBlanks x (fn5_behindName x p1)) + (1 : Int32)))
    · exact kwl_S x
    · rfl
    · exact ks_SC_S_0_m x c x
    refine am_cy (pre := pr4_isQuote) (f := fm4_isQuote) (a' := [.inl (fn5_sign x (fn5_behindBlanks x ((fn5_behindBlanks x (fn5_behindName x p1)) + (1 : Int32))))]) (wc := []) (w' := (kw_SC x c)) (r := (some (.inl (fn4_isQuote (fn5_sign x (fn5_behindBlanks x ((fn5_behindBlanks x (fn5_behindName x p1)) + (1 : Int32)))))), [], 0, 0)) ?_ ?_ ?_ ?_ ?_ ?_ ?_ ?_ ?_ ?_
    · exact am_sow0 _
    · rfl
    · rfl
    · exact am_sub0 _
    · exact ⟨(fn5_sign x (fn5_behindBlanks x ((fn5_behindBlanks x (fn5_behindName x p1)) + (1 : Int32)))), rfl, rfl, q1.2.2.1⟩
    · exact fe4_isQuote (fn5_sign x (fn5_behindBlanks x ((fn5_behindBlanks x (fn5_behindName x p1)) + (1 : Int32))))
    · exact rfl
    · rfl
    · exact am_mix0 _
    refine am_if (c := (fn4_isQuote (fn5_sign x (fn5_behindBlanks x ((fn5_behindBlanks x (fn5_behindName x p1)) + (1 : Int32))))) = 0) (fun h2 => ?_) (fun h2 => ?_)
    · have e : fn3_attribute x c p1 = ((0 : Int32), c) := by
        rw [fq3_attribute]
        rw [if_pos h1, if_pos h2]
      rw [e] <;> rfl
    · have q2 := q1.2.2.2.2 h2
      refine am_cy (pre := pr3_kindOf) (f := fm3_kindOf) (a' := [.inr (.inl 0), .inl p1, .inl (fn5_behindName x p1)]) (wc := (kw_S x)) (w' := (kw_SC x c)) (r := (some (.inl (fn3_kindOf x p1 (fn5_behindName x p1))), (kw_S x), 0, 0)) ?_ ?_ ?_ ?_ ?_ ?_ ?_ ?_ ?_ ?_
      · exact ks_SC_S_0_o x c
      · rfl
      · rfl
      · exact ks_SC_S_0_s x c
      · exact ⟨x, p1, (fn5_behindName x p1), rfl, rfl, q2.1⟩
      · exact fe3_kindOf x p1 (fn5_behindName x p1)
      · exact kwl_S x
      · rfl
      · exact ks_SC_S_0_m x c x
      refine am_cy (pre := pr1_enterValue) (f := fm1_enterValue) (a' := [.inr (.inl 0), .inl (fn5_sign x (fn5_behindBlanks x ((fn5_behindBlanks x (fn5_behindName x p1)) + (1 : Int32)))), .inl (fn3_kindOf x p1 (fn5_behindName x p1))]) (wc := (kw_C c)) (w' := (kw_SC x (fn1_enterValue c (fn5_sign x (fn5_behindBlanks x ((fn5_behindBlanks x (fn5_behindName x p1)) + (1 : Int32)))) (fn3_kindOf x p1 (fn5_behindName x p1))))) (r := (none, (kw_C (fn1_enterValue c (fn5_sign x (fn5_behindBlanks x ((fn5_behindBlanks x (fn5_behindName x p1)) + (1 : Int32)))) (fn3_kindOf x p1 (fn5_behindName x p1)))), 0, 0)) ?_ ?_ ?_ ?_ ?_ ?_ ?_ ?_ ?_ ?_
      · exact ks_SC_C_1_o x c
      · rfl
      · rfl
      · exact ks_SC_C_1_s x c
      · exact ⟨c, (fn5_sign x (fn5_behindBlanks x ((fn5_behindBlanks x (fn5_behindName x p1)) + (1 : Int32)))), (fn3_kindOf x p1 (fn5_behindName x p1)), rfl, rfl, q2.2⟩
      · exact fe1_enterValue c (fn5_sign x (fn5_behindBlanks x ((fn5_behindBlanks x (fn5_behindName x p1)) + (1 : Int32)))) (fn3_kindOf x p1 (fn5_behindName x p1))
      · exact kwl_C (fn1_enterValue c (fn5_sign x (fn5_behindBlanks x ((fn5_behindBlanks x (fn5_behindName x p1)) + (1 : Int32)))) (fn3_kindOf x p1 (fn5_behindName x p1)))
      · rfl
      · exact ks_SC_C_1_m x c (fn1_enterValue c (fn5_sign x (fn5_behindBlanks x ((fn5_behindBlanks x (fn5_behindName x p1)) + (1 : Int32)))) (fn3_kindOf x p1 (fn5_behindName x p1)))
      have e : fn3_attribute x c p1 = ((((fn5_behindBlanks x ((fn5_behindBlanks x (fn5_behindName x p1)) + (1 : Int32))) + (1 : Int32)) - p1), (fn1_enterValue c (fn5_sign x (fn5_behindBlanks x ((fn5_behindBlanks x (fn5_behindName x p1)) + (1 : Int32)))) (fn3_kindOf x p1 (fn5_behindName x p1)))) := by
        rw [fq3_attribute]
        rw [if_pos h1, if_neg h2]
      rw [e] <;> rfl
  · refine am_if (c := (fn5_behindName x p1) < (fn5_behindBlanks x (fn5_behindName x p1))) (fun h2 => ?_) (fun h2 => ?_)
    · have e : fn3_attribute x c p1 = (((fn5_behindBlanks x (fn5_behindName x p1)) - p1), c) := by
        rw [fq3_attribute]
        rw [if_neg h1, if_pos h2]
      rw [e] <;> rfl
    · refine am_if (c := (fn5_sign x (fn5_behindBlanks x (fn5_behindName x p1))) = (47 : Int32)) (fun h3 => ?_) (fun h3 => ?_)
      · have e : fn3_attribute x c p1 = (((fn5_behindBlanks x (fn5_behindName x p1)) - p1), c) := by
          rw [fq3_attribute]
          rw [if_neg h1, if_neg h2, if_pos h3]
        rw [e] <;> rfl
      · refine am_if (c := (fn5_sign x (fn5_behindBlanks x (fn5_behindName x p1))) = (62 : Int32)) (fun h4 => ?_) (fun h4 => ?_)
        · have e : fn3_attribute x c p1 = (((fn5_behindBlanks x (fn5_behindName x p1)) - p1), c) := by
            rw [fq3_attribute]
            rw [if_neg h1, if_neg h2, if_neg h3, if_pos h4]
          rw [e] <;> rfl
        · have e : fn3_attribute x c p1 = ((0 : Int32), c) := by
            rw [fq3_attribute]
            rw [if_neg h1, if_neg h2, if_neg h3, if_neg h4]
          rw [e] <;> rfl
abbrev pr3_attribute : List am_V → List am_C → Prop := fun a w => ∃ (x : qt5) (c : qt1) (p1 : Int32), a = [.inr (.inl 0), .inl p1, .inr (.inl 8)] ∧ w = (kw_SC x c) ∧ wp3_attribute x c p1
noncomputable def fm3_attribute : am_M := fun a w => (fun (z : Int32 × qt1) => (some (.inl (z.1)), (kw_SC (qs5 w 0) (z.2)), 0, 0)) (fn3_attribute (qs5 w 0) (qs1 w 8) (am_i (am_an a 1)))
theorem fe3_attribute (x : qt5) (c : qt1) (p1 : Int32) : fm3_attribute [.inr (.inl 0), .inl p1, .inr (.inl 8)] (kw_SC x c) = (some (.inl ((fn3_attribute x c p1).1)), (kw_SC x ((fn3_attribute x c p1).2)), 0, 0) := rfl
set_option maxRecDepth 100000 in
set_option maxHeartbeats 4000000 in
theorem rn3_attribute : ∀ (a : List am_V) (w : List am_C), pr3_attribute a w → ∃ nq, am_ev (am_mk kb3_attribute (fm3_attribute a w).2.2.1 (fm3_attribute a w).2.2.2 w.length) [] nq (0, am_L0 a 8, [], w, 0, 0) = some ((fm3_attribute a w).1, (fm3_attribute a w).2.1) := by
  rintro a w ⟨x, c, p1, rfl, rfl, hp⟩
  rw [fe3_attribute x c p1]
  exact am_lf_ev (re3_attribute x c p1 hp)
theorem rl3_attribute : ∀ (a : List am_V) (w : List am_C), pr3_attribute a w → a.length ≤ 8 := by
  rintro a w ⟨x, c, p1, rfl, rfl, hp⟩
  exact Nat.le_of_ble_eq_true rfl
set_option maxRecDepth 100000 in
set_option maxHeartbeats 4000000 in
theorem km3_attribute {l : Launch} {E : (Nat → Prop) → State → Prop} {D : va_G} {ou : Nat → Nat} {ca : Nat → ClassId} (hE : hg_E E ou) : hg_Met l E D ou ca hy3_attribute prog_5_method_10_code 8 (some .int) 6 pr3_attribute fm3_attribute := by
  refine am_met (B := kb3_attribute) (cuts := []) (nt := 5) (by decide +kernel) rfl rfl (hg_tys_ok ca) ?_ (by decide) rl3_attribute ?_ rn3_attribute
  · exact fun t ht => List.mem_cons_of_mem _ (hg_arr t ht)
  · intro a w hp ad p e R s m args below meth c hR X hEs hnm
    have hR1 : 6 ≤ R.frames ∧ 240 ≤ R.locals := by rw [hR]; exact ⟨Nat.le_refl _, Nat.le_refl _⟩
    have hN := hE.2.1 _ _ hEs
    refine ⟨kd3_attribute_ok, fun index ci fi mode hq => kf3_ok X.2.2.2.2.1 hN.1 (index, ci, fi, mode) (am_as_mem hq), fun index ci fs hq => (am_no hq).elim, fun x v hq => (am_no hq).elim, ?_, fun o t n f hq => (am_no hq).elim, rfl, rfl, by rw [hR]; exact Nat.le_refl _, by rw [hR]; exact Nat.le_refl _⟩
    intro pc sel n0 pre0 f0 hq
    have hz : ∀ q ∈ ki3_attribute, am_CK p l e R s m args below meth c D hn_cl (va_A (am_w ad ou ca w) s.heap.size) ou ca 8 q.1 q.2.2.1 q.2.2.2.1 q.2.2.2.2 := by
      refine am_allc (am_ck_V (n := 1) X hEs hE.1 (km5_behindName hE) (hg_good (gw_mem 455 (by decide +kernel))) rfl (List.mem_cons_of_mem _ (gw_mem 73 (by decide +kernel))) (List.mem_cons_of_mem _ (gw_mem 452 (by decide +kernel))) (List.mem_cons_of_mem _ (gw_mem 453 (by decide +kernel))) (List.mem_cons_of_mem _ (gw_mem 454 (by decide +kernel))) pa5_behindName (by decide +kernel) ⟨Nat.le_trans (by decide) hR1.1, Nat.le_trans (by decide) hR1.2⟩ (kd3_attribute_ok (2, .invokevirtual 103, 3) (List.mem_of_getElem? (i := 2) rfl))) (am_allc (am_ck_V (n := 1) X hEs hE.1 (km5_behindBlanks hE) (hg_good (gw_mem 459 (by decide +kernel))) rfl (List.mem_cons_of_mem _ (gw_mem 73 (by decide +kernel))) (List.mem_cons_of_mem _ (gw_mem 456 (by decide +kernel))) (List.mem_cons_of_mem _ (gw_mem 457 (by decide +kernel))) (List.mem_cons_of_mem _ (gw_mem 458 (by decide +kernel))) pa5_behindBlanks (by decide +kernel) ⟨Nat.le_trans (by decide) hR1.1, Nat.le_trans (by decide) hR1.2⟩ (kd3_attribute_ok (8, .invokevirtual 106, 3) (List.mem_of_getElem? (i := 6) rfl))) (am_allc (am_ck_V (n := 1) X hEs hE.1 (km5_sign hE) (hg_good (gw_mem 352 (by decide +kernel))) rfl (List.mem_cons_of_mem _ (gw_mem 73 (by decide +kernel))) (List.mem_cons_of_mem _ (gw_mem 349 (by decide +kernel))) (List.mem_cons_of_mem _ (gw_mem 350 (by decide +kernel))) (List.mem_cons_of_mem _ (gw_mem 351 (by decide +kernel))) pa5_sign (by decide +kernel) ⟨Nat.le_trans (by decide) hR1.1, Nat.le_trans (by decide) hR1.2⟩ (kd3_attribute_ok (16, .invokevirtual 36, 3) (List.mem_of_getElem? (i := 10) rfl))) (am_allc (am_ck_V (n := 1) X hEs hE.1 (km5_behindBlanks hE) (hg_good (gw_mem 459 (by decide +kernel))) rfl (List.mem_cons_of_mem _ (gw_mem 73 (by decide +kernel))) (List.mem_cons_of_mem _ (gw_mem 456 (by decide +kernel))) (List.mem_cons_of_mem _ (gw_mem 457 (by decide +kernel))) (List.mem_cons_of_mem _ (gw_mem 458 (by decide +kernel))) pa5_behindBlanks (by decide +kernel) ⟨Nat.le_trans (by decide) hR1.1, Nat.le_trans (by decide) hR1.2⟩ (kd3_attribute_ok (62, .invokevirtual 106, 3) (List.mem_of_getElem? (i := 34) rfl))) (am_allc (am_ck_V (n := 1) X hEs hE.1 (km5_sign hE) (hg_good (gw_mem 352 (by decide +kernel))) rfl (List.mem_cons_of_mem _ (gw_mem 73 (by decide +kernel))) (List.mem_cons_of_mem _ (gw_mem 349 (by decide +kernel))) (List.mem_cons_of_mem _ (gw_mem 350 (by decide +kernel))) (List.mem_cons_of_mem _ (gw_mem 351 (by decide +kernel))) pa5_sign (by decide +kernel) ⟨Nat.le_trans (by decide) hR1.1, Nat.le_trans (by decide) hR1.2⟩ (kd3_attribute_ok (70, .invokevirtual 36, 3) (List.mem_of_getElem? (i := 38) rfl))) (am_allc (am_ck_S (n := 1) X hEs hE.1 (km4_isQuote hE) (hg_good (gw_mem 463 (by decide +kernel))) rfl (List.mem_cons_of_mem _ (gw_mem 77 (by decide +kernel))) (List.mem_cons_of_mem _ (gw_mem 461 (by decide +kernel))) (List.mem_cons_of_mem _ (gw_mem 462 (by decide +kernel))) (by decide +kernel) ⟨Nat.le_trans (by decide) hR1.1, Nat.le_trans (by decide) hR1.2⟩ (kd3_attribute_ok (77, .invokestatic 109, 3) (List.mem_of_getElem? (i := 41) rfl))) (am_allc (am_ck_S (n := 3) X hEs hE.1 (km3_kindOf hE) (hg_good (gw_mem 466 (by decide +kernel))) rfl (List.mem_cons_of_mem _ (gw_mem 82 (by decide +kernel))) (List.mem_cons_of_mem _ (gw_mem 464 (by decide +kernel))) (List.mem_cons_of_mem _ (gw_mem 465 (by decide +kernel))) (by decide +kernel) ⟨Nat.le_trans (by decide) hR1.1, Nat.le_trans (by decide) hR1.2⟩ (kd3_attribute_ok (91, .invokestatic 112, 3) (List.mem_of_getElem? (i := 50) rfl))) (am_allc (am_ck_V (n := 2) X hEs hE.1 (km1_enterValue hE) (hg_good (gw_mem 474 (by decide +kernel))) rfl (List.mem_cons_of_mem _ (gw_mem 74 (by decide +kernel))) (List.mem_cons_of_mem _ (gw_mem 471 (by decide +kernel))) (List.mem_cons_of_mem _ (gw_mem 472 (by decide +kernel))) (List.mem_cons_of_mem _ (gw_mem 473 (by decide +kernel))) pa1_enterValue (by decide +kernel) ⟨Nat.le_trans (by decide) hR1.1, Nat.le_trans (by decide) hR1.2⟩ (kd3_attribute_ok (94, .invokevirtual 115, 3) (List.mem_of_getElem? (i := 51) rfl))) (am_all0))))))))
    exact hz _ (am_as_mem hq)
