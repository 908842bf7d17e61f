noncomputable def ki1_enterElement : List (Nat × Option (List Nat) × Nat × (List am_V → List am_C → Prop) × am_M) := [(10, none, 2, pr1_enter, fm1_enter), (26, none, 2, pr1_enter, fm1_enter), (46, none, 2, pr1_enter, fm1_enter)]
noncomputable def kb1_enterElement : am_B := (kd1_enterElement, am_as kf1, hn_ty, fun _ => none, fun _ => none, am_as ki1_enterElement, fun _ => none, 5, 1, none)
noncomputable def fn1_enterElement (c : qt1) : qt1 := Classical.choose (⟨_, rfl⟩ : ∃ z : qt1, z = (if (qg1_element c) = (1 : Int32) then (fn1_enter c (3 : Int32)) else (if (qg1_element c) = (2 : Int32) then (fn1_enter c (4 : Int32)) else (if (qg1_element c) = (3 : Int32) then (fn1_enter c (5 : Int32)) else (fn1_enter c (0 : Int32))))))
theorem fq1_enterElement (c : qt1) : fn1_enterElement c = (if (qg1_element c) = (1 : Int32) then (fn1_enter c (3 : Int32)) else (if (qg1_element c) = (2 : Int32) then (fn1_enter c (4 : Int32)) else (if (qg1_element c) = (3 : Int32) then (fn1_enter c (5 : Int32)) else (fn1_enter c (0 : Int32))))) := Classical.choose_spec (⟨_, rfl⟩ : ∃ z : qt1, z = (if (qg1_element c) = (1 : Int32) then (fn1_enter c (3 : Int32)) else (if (qg1_element c) = (2 : Int32) then (fn1_enter c (4 : Int32)) else (if (qg1_element c) = (3 : Int32) then (fn1_enter c (5 : Int32)) else (fn1_enter c (0 : Int32))))))
def wp1_enterElement (c : qt1) : Prop := (((qg1_element c) = (1 : Int32) → (wp1_enter c (3 : Int32))) ∧ (¬ (qg1_element c) = (1 : Int32) → (((qg1_element c) = (2 : Int32) → (wp1_enter c (4 : Int32))) ∧ (¬ (qg1_element c) = (2 : Int32) → (((qg1_element c) = (3 : Int32) → (wp1_enter c (5 : Int32))) ∧ (¬ (qg1_element c) = (3 : Int32) → (wp1_enter c (0 : Int32))))))))
set_option maxRecDepth 100000 in
set_option maxHeartbeats 4000000 in
theorem re1_enterElement (c : qt1) (hp : wp1_enterElement c) : am_lf (am_mk kb1_enterElement 0 0 1) [] (0, am_L0 [.inr (.inl 0)] 1, [], (kw_C c), 0, 0) = some (none, (kw_C (fn1_enterElement c))) := by
  unfold wp1_enterElement at hp
  refine am_lf_eq ?_
  generalize am_lf (am_mk kb1_enterElement 0 0 1) [] = kt
  refine am_if (c := (qg1_element c) = (1 : Int32)) (fun h1 => ?_) (fun h1 => ?_)
  · have q1 := hp.1 h1
    refine am_cx (pre := pr1_enter) (f := fm1_enter) (r := (none, (kw_C (fn1_enter c (3 : Int32))), 0, 0)) ?_ ?_ ?_ ?_
    · exact ⟨c, (3 : Int32), rfl, rfl, q1⟩
    · exact fe1_enter c (3 : Int32)
    · exact rfl
    have e : fn1_enterElement c = (fn1_enter c (3 : Int32)) := by
      rw [fq1_enterElement]
      rw [if_pos h1]
    rw [e] <;> rfl
  · have q1 := hp.2 h1
    refine am_if (c := (qg1_element c) = (2 : Int32)) (fun h2 => ?_) (fun h2 => ?_)
    · have q2 := q1.1 h2
      refine am_cx (pre := pr1_enter) (f := fm1_enter) (r := (none, (kw_C (fn1_enter c (4 : Int32))), 0, 0)) ?_ ?_ ?_ ?_
      · exact ⟨c, (4 : Int32), rfl, rfl, q2⟩
      · exact fe1_enter c (4 : Int32)
      · exact rfl
      have e : fn1_enterElement c = (fn1_enter c (4 : Int32)) := by
        rw [fq1_enterElement]
        rw [if_neg h1, if_pos h2]
      rw [e] <;> rfl
    · have q2 := q1.2 h2
      refine am_if (c := (qg1_element c) = (3 : Int32)) (fun h3 => ?_) (fun h3 => ?_)
      · have q3 := q2.1 h3
        refine am_cx (pre := pr1_enter) (f := fm1_enter) (r := (none, (kw_C (fn1_enter c (5 : Int32))), 0, 0)) ?_ ?_ ?_ ?_
        · exact ⟨c, (5 : Int32), rfl, rfl, q3⟩
        · exact fe1_enter c (5 : Int32)
        · exact rfl
        have e : fn1_enterElement c = (fn1_enter c (5 : Int32)) := by
          rw [fq1_enterElement]
          rw [if_neg h1, if_neg h2, if_pos h3]
        rw [e] <;> rfl
      · have q3 := q2.2 h3
        refine am_cx (pre := pr1_enter) (f := fm1_enter) (r := (none, (kw_C (fn1_enter c (0 : Int32))), 0, 0)) ?_ ?_ ?_ ?_
        · exact ⟨c, (0 : Int32), rfl, rfl, q3⟩
        · exact fe1_enter c (0 : Int32)
        · exact rfl
        have e : fn1_enterElement c = (fn1_enter c (0 : Int32)) := by
          rw [fq1_enterElement]
          rw [if_neg h1, if_neg h2, if_neg h3]
        rw [e] <;> rfl
abbrev pr1_enterElement : List am_V → List am_C → Prop := fun a w => ∃ (c : qt1), a = [.inr (.inl 0)] ∧ w = (kw_C c) ∧ wp1_enterElement c
noncomputable def fm1_enterElement : am_M := fun a w => (fun (z : qt1) => (none, (kw_C z), 0, 0)) (fn1_enterElement (qs1 w 0))
theorem fe1_enterElement (c : qt1) : fm1_enterElement [.inr (.inl 0)] (kw_C c) = (none, (kw_C (fn1_enterElement c)), 0, 0) := rfl
set_option maxRecDepth 100000 in
set_option maxHeartbeats 4000000 in
theorem rn1_enterElement : ∀ (a : List am_V) (w : List am_C), pr1_enterElement a w → ∃ nq, am_ev (am_mk kb1_enterElement (fm1_enterElement a w).2.2.1 (fm1_enterElement a w).2.2.2 w.length) [] nq (0, am_L0 a 1, [], w, 0, 0) = some ((fm1_enterElement a w).1, (fm1_enterElement a w).2.1) := by
  rintro a w ⟨c, rfl, rfl, hp⟩
  rw [fe1_enterElement c]
  exact am_lf_ev (re1_enterElement c hp)
theorem rl1_enterElement : ∀ (a : List am_V) (w : List am_C), pr1_enterElement a w → a.length ≤ 1 := by
  rintro a w ⟨c, rfl, rfl, hp⟩
  exact Nat.le_of_ble_eq_true rfl
theorem pa1_enterElement : ∀ a w, pr1_enterElement a w → ∃ q a' ci fs r, a = .inr (.inl q) :: a' ∧ w[q]? = some (.inr (ci, fs)) ∧ hn_cl[ci]? = some r ∧ r.1 = hn_R1 := by
  rintro a w ⟨c, rfl, rfl, hp⟩
  exact ⟨0, _, 1, _, _, rfl, rfl, rfl, rfl⟩
set_option maxRecDepth 100000 in
set_option maxHeartbeats 4000000 in
theorem km1_enterElement {l : Launch} {E : (Nat → Prop) → State → Prop} {D : va_G} {ou : Nat → Nat} {ca : Nat → ClassId} (hE : hg_E E ou) : hg_Met l E D ou ca hy1_enterElement prog_3_method_5_code 1 none 1 pr1_enterElement fm1_enterElement := by
  refine am_met (B := kb1_enterElement) (cuts := []) (nt := 5) (by decide +kernel) rfl rfl (hg_tys_ok ca) ?_ (by decide) rl1_enterElement ?_ rn1_enterElement
  · exact fun t ht => List.mem_cons_of_mem _ (hg_arr t ht)
  · intro a w hp ad p e R s m args below meth c hR X hEs hnm
    have hR1 : 1 ≤ R.frames ∧ 40 ≤ R.locals := by rw [hR]; exact ⟨Nat.le_refl _, Nat.le_refl _⟩
    have hN := hE.2.1 _ _ hEs
    refine ⟨kd1_enterElement_ok, fun index ci fi mode hq => kf1_ok X.2.2.2.2.1 hN.1 (index, ci, fi, mode) (am_as_mem hq), fun index ci fs hq => (am_no hq).elim, fun x v hq => (am_no hq).elim, ?_, fun o t n f hq => (am_no hq).elim, rfl, rfl, by rw [hR]; exact Nat.le_refl _, by rw [hR]; exact Nat.le_refl _⟩
    intro pc sel n0 pre0 f0 hq
    have hz : ∀ q ∈ ki1_enterElement, am_CK p l e R s m args below meth c D hn_cl (va_A (am_w ad ou ca w) s.heap.size) ou ca 1 q.1 q.2.2.1 q.2.2.2.1 q.2.2.2.2 := by
      refine am_allc (am_ck_V (n := 1) X hEs hE.1 (km1_enter hE) (hg_good (gw_mem 334 (by decide +kernel))) rfl (List.mem_cons_of_mem _ (gw_mem 74 (by decide +kernel))) (List.mem_cons_of_mem _ (gw_mem 440 (by decide +kernel))) (List.mem_cons_of_mem _ (gw_mem 332 (by decide +kernel))) (List.mem_cons_of_mem _ (gw_mem 333 (by decide +kernel))) pa1_enter (by decide +kernel) ⟨Nat.le_trans (by decide) hR1.1, Nat.le_trans (by decide) hR1.2⟩ (kd1_enterElement_ok (10, .invokevirtual 28, 3) (List.mem_of_getElem? (i := 6) rfl))) (am_allc (am_ck_V (n := 1) X hEs hE.1 (km1_enter hE) (hg_good (gw_mem 334 (by decide +kernel))) rfl (List.mem_cons_of_mem _ (gw_mem 74 (by decide +kernel))) (List.mem_cons_of_mem _ (gw_mem 440 (by decide +kernel))) (List.mem_cons_of_mem _ (gw_mem 332 (by decide +kernel))) (List.mem_cons_of_mem _ (gw_mem 333 (by decide +kernel))) pa1_enter (by decide +kernel) ⟨Nat.le_trans (by decide) hR1.1, Nat.le_trans (by decide) hR1.2⟩ (kd1_enterElement_ok (26, .invokevirtual 28, 3) (List.mem_of_getElem? (i := 14) rfl))) (am_allc (am_ck_V (n := 1) X hEs hE.1 (km1_enter hE) (hg_good (gw_mem 334 (by decide +kernel))) rfl (List.mem_cons_of_mem _ (gw_mem 74 (by decide +kernel))) (List.mem_cons_of_mem _ (gw_mem 440 (by decide +kernel))) (List.mem_cons_of_mem _ (gw_mem 332 (by decide +kernel))) (List.mem_cons_of_mem _ (gw_mem 333 (by decide +kernel))) pa1_enter (by decide +kernel) ⟨Nat.le_trans (by decide) hR1.1, Nat.le_trans (by decide) hR1.2⟩ (kd1_enterElement_ok (46, .invokevirtual 28, 3) (List.mem_of_getElem? (i := 24) rfl))) (am_all0)))
    exact hz _ (am_as_mem hq)
noncomputable def ki1_isStyle : List (Nat × Option (List Nat) × Nat × (List am_V → List am_C → Prop) × am_M) := []
noncomputable def kb1_isStyle : am_B := (kd1_isStyle, am_as kf1, hn_ty, fun _ => none, fun _ => none, am_as ki1_isStyle, fun _ => none, 5, 1, (some .boolean))
noncomputable def fn1_isStyle (c : qt1) : Int32 := Classical.choose (⟨_, rfl⟩ : ∃ z : Int32, z = (if (qg1_name c) = (4 : Int32) then (1 : Int32) else (if (qg1_name c) = (2 : Int32) then (if (qg1_kind c) = (3 : Int32) then (1 : Int32) else (0 : Int32)) else (0 : Int32))))
theorem fq1_isStyle (c : qt1) : fn1_isStyle c = (if (qg1_name c) = (4 : Int32) then (1 : Int32) else (if (qg1_name c) = (2 : Int32) then (if (qg1_kind c) = (3 : Int32) then (1 : Int32) else (0 : Int32)) else (0 : Int32))) := Classical.choose_spec (⟨_, rfl⟩ : ∃ z : Int32, z = (if (qg1_name c) = (4 : Int32) then (1 : Int32) else (if (qg1_name c) = (2 : Int32) then (if (qg1_kind c) = (3 : Int32) then (1 : Int32) else (0 : Int32)) else (0 : Int32))))
def wp1_isStyle (c : qt1) : Prop := True
set_option maxRecDepth 100000 in
set_option maxHeartbeats 4000000 in
theorem re1_isStyle (c : qt1) (hp : wp1_isStyle c) : am_lf (am_mk kb1_isStyle 0 0 1) [] (0, am_L0 [.inr (.inl 0)] 1, [], (kw_C c), 0, 0) = some (some (.inl (fn1_isStyle c)), (kw_C c)) := by
  unfold wp1_isStyle at hp
  refine am_lf_eq ?_
  generalize am_lf (am_mk kb1_isStyle 0 0 1) [] = kt
  refine am_if (c := (qg1_name c) = (4 : Int32)) (fun h1 => ?_) (fun h1 => ?_)
  · have e : fn1_isStyle c = (1 : Int32) := by
      rw [fq1_isStyle]
      rw [if_pos h1]
    rw [e] <;> rfl
  · refine am_if (c := (qg1_name c) = (2 : Int32)) (fun h2 => ?_) (fun h2 => ?_)
    · refine am_if (c := (qg1_kind c) = (3 : Int32)) (fun h3 => ?_) (fun h3 => ?_)
      · have e : fn1_isStyle c = (1 : Int32) := by
          rw [fq1_isStyle]
          rw [if_neg h1, if_pos h2, if_pos h3]
        rw [e] <;> rfl
      · have e : fn1_isStyle c = (0 : Int32) := by
          rw [fq1_isStyle]
          rw [if_neg h1, if_pos h2, if_neg h3]
        rw [e] <;> rfl
    · have e : fn1_isStyle c = (0 : Int32) := by
        rw [fq1_isStyle]
        rw [if_neg h1, if_neg h2]
      rw [e] <;> rfl
abbrev pr1_isStyle : List am_V → List am_C → Prop := fun a w => ∃ (c : qt1), a = [.inr (.inl 0)] ∧ w = (kw_C c) ∧ wp1_isStyle c
noncomputable def fm1_isStyle : am_M := fun a w => (fun (z : Int32) => (some (.inl z), (kw_C (qs1 w 0)), 0, 0)) (fn1_isStyle (qs1 w 0))
theorem fe1_isStyle (c : qt1) : fm1_isStyle [.inr (.inl 0)] (kw_C c) = (some (.inl (fn1_isStyle c)), (kw_C c), 0, 0) := rfl
set_option maxRecDepth 100000 in
set_option maxHeartbeats 4000000 in
theorem rn1_isStyle : ∀ (a : List am_V) (w : List am_C), pr1_isStyle a w → ∃ nq, am_ev (am_mk kb1_isStyle (fm1_isStyle a w).2.2.1 (fm1_isStyle a w).2.2.2 w.length) [] nq (0, am_L0 a 1, [], w, 0, 0) = some ((fm1_isStyle a w).1, (fm1_isStyle a w).2.1) := by
  rintro a w ⟨c, rfl, rfl, hp⟩
  rw [fe1_isStyle c]
  exact am_lf_ev (re1_isStyle c hp)
theorem rl1_isStyle : ∀ (a : List am_V) (w : List am_C), pr1_isStyle a w → a.length ≤ 1 := by
  rintro a w ⟨c, rfl, rfl, hp⟩
  exact Nat.le_of_ble_eq_true rfl
theorem pa1_isStyle : ∀ a w, pr1_isStyle a w → ∃ q a' ci fs r, a = .inr (.inl q) :: a' ∧ w[q]? = some (.inr (ci, fs)) ∧ hn_cl[ci]? = some r ∧ r.1 = hn_R1 := by
  rintro a w ⟨c, rfl, rfl, hp⟩
  exact ⟨0, _, 1, _, _, rfl, rfl, rfl, rfl⟩
set_option maxRecDepth 100000 in
set_option maxHeartbeats 4000000 in
theorem km1_isStyle {l : Launch} {E : (Nat → Prop) → State → Prop} {D : va_G} {ou : Nat → Nat} {ca : Nat → ClassId} (hE : hg_E E ou) : hg_Met l E D ou ca hy1_isStyle prog_3_method_6_code 1 (some .boolean) 0 pr1_isStyle fm1_isStyle := by
  refine am_met (B := kb1_isStyle) (cuts := []) (nt := 5) (by decide +kernel) rfl rfl (hg_tys_ok ca) ?_ (by decide) rl1_isStyle ?_ rn1_isStyle
  · exact fun t ht => List.mem_cons_of_mem _ (hg_arr t ht)
  · intro a w hp ad p e R s m args below meth c hR X hEs hnm
    have hR1 : 0 ≤ R.frames ∧ 0 ≤ R.locals := by rw [hR]; exact ⟨Nat.le_refl _, Nat.le_refl _⟩
    have hN := hE.2.1 _ _ hEs
    refine ⟨kd1_isStyle_ok, fun index ci fi mode hq => kf1_ok X.2.2.2.2.1 hN.1 (index, ci, fi, mode) (am_as_mem hq), fun index ci fs hq => (am_no hq).elim, fun x v hq => (am_no hq).elim, ?_, fun o t n f hq => (am_no hq).elim, rfl, rfl, by rw [hR]; exact Nat.le_refl _, by rw [hR]; exact Nat.le_refl _⟩
    intro pc sel n0 pre0 f0 hq
    exact (am_no hq).elim
noncomputable def ki1_packed : List (Nat × Option (List Nat) × Nat × (List am_V → List am_C → Prop) × am_M) := []
noncomputable def kb1_packed : am_B := (kd1_packed, am_as kf1, hn_ty, fun _ => none, fun _ => none, am_as ki1_packed, fun _ => none, 5, 1, (some .int))
noncomputable def fn1_packed (c : qt1) : Int32 := Classical.choose (⟨_, rfl⟩ : ∃ z : Int32, z = ((((((qg1_quote c) <<< ((10 : Int32) &&& 31)) ||| ((qg1_name c) <<< ((7 : Int32) &&& 31))) ||| ((qg1_element c) <<< ((5 : Int32) &&& 31))) ||| ((qg1_kind c) <<< ((3 : Int32) &&& 31))) ||| (qg1_part c)))
theorem fq1_packed (c : qt1) : fn1_packed c = ((((((qg1_quote c) <<< ((10 : Int32) &&& 31)) ||| ((qg1_name c) <<< ((7 : Int32) &&& 31))) ||| ((qg1_element c) <<< ((5 : Int32) &&& 31))) ||| ((qg1_kind c) <<< ((3 : Int32) &&& 31))) ||| (qg1_part c)) := Classical.choose_spec (⟨_, rfl⟩ : ∃ z : Int32, z = ((((((qg1_quote c) <<< ((10 : Int32) &&& 31)) ||| ((qg1_name c) <<< ((7 : Int32) &&& 31))) ||| ((qg1_element c) <<< ((5 : Int32) &&& 31))) ||| ((qg1_kind c) <<< ((3 : Int32) &&& 31))) ||| (qg1_part c)))
def wp1_packed (c : qt1) : Prop := True
set_option maxRecDepth 100000 in
set_option maxHeartbeats 4000000 in
theorem re1_packed (c : qt1) (hp : wp1_packed c) : am_lf (am_mk kb1_packed 0 0 1) [] (0, am_L0 [.inr (.inl 0)] 1, [], (kw_C c), 0, 0) = some (some (.inl (fn1_packed c)), (kw_C c)) := by
  unfold wp1_packed at hp
  refine am_lf_eq ?_
  generalize am_lf (am_mk kb1_packed 0 0 1) [] = kt
  have e : fn1_packed c = ((((((qg1_quote c) <<< ((10 : Int32) &&& 31)) ||| ((qg1_name c) <<< ((7 : Int32) &&& 31))) ||| ((qg1_element c) <<< ((5 : Int32) &&& 31))) ||| ((qg1_kind c) <<< ((3 : Int32) &&& 31))) ||| (qg1_part c)) := by
    rw [fq1_packed]
  rw [e] <;> rfl
abbrev pr1_packed : List am_V → List am_C → Prop := fun a w => ∃ (c : qt1), a = [.inr (.inl 0)] ∧ w = (kw_C c) ∧ wp1_packed c
noncomputable def fm1_packed : am_M := fun a w => (fun (z : Int32) => (some (.inl z), (kw_C (qs1 w 0)), 0, 0)) (fn1_packed (qs1 w 0))
theorem fe1_packed (c : qt1) : fm1_packed [.inr (.inl 0)] (kw_C c) = (some (.inl (fn1_packed c)), (kw_C c), 0, 0) := rfl
set_option maxRecDepth 100000 in
set_option maxHeartbeats 4000000 in
theorem rn1_packed : ∀ (a : List am_V) (w : List am_C), pr1_packed a w → ∃ nq, am_ev (am_mk kb1_packed (fm1_packed a w).2.2.1 (fm1_packed a w).2.2.2 w.length) [] nq (0, am_L0 a 1, [], w, 0, 0) = some ((fm1_packed a w).1, (fm1_packed a w).2.1) := by
  rintro a w ⟨c, rfl, rfl, hp⟩
  rw [fe1_packed c]
  exact am_lf_ev (re1_packed c hp)
theorem rl1_packed : ∀ (a : List am_V) (w : List am_C), pr1_packed a w → a.length ≤ 1 := by
  rintro a w ⟨c, rfl, rfl, hp⟩
  exact Nat.le_of_ble_eq_true rfl
theorem pa1_packed : ∀ a w, pr1_packed a w → ∃ q a' ci fs r, a = .inr (.inl q) :: a' ∧ w[q]? = some (.inr (ci, fs)) ∧ hn_cl[ci]? = some r ∧ r.1 = hn_R1 := by
  rintro a w ⟨c, rfl, rfl, hp⟩
  exact ⟨0, _, 1, _, _, rfl, rfl, rfl, rfl⟩
set_option maxRecDepth 100000 in
set_option maxHeartbeats 4000000 in
theorem km1_packed {l : Launch} {E : (Nat → Prop) → State → Prop} {D : va_G} {ou : Nat → Nat} {ca : Nat → ClassId} (hE : hg_E E ou) : hg_Met l E D ou ca hy1_packed prog_3_method_7_code 1 (some .int) 0 pr1_packed fm1_packed := by
  refine am_met (B := kb1_packed) (cuts := []) (nt := 5) (by decide +kernel) rfl rfl (hg_tys_ok ca) ?_ (by decide) rl1_packed ?_ rn1_packed
  · exact fun t ht => List.mem_cons_of_mem _ (hg_arr t ht)
  · intro a w hp ad p e R s m args below meth c hR X hEs hnm
    have hR1 : 0 ≤ R.frames ∧ 0 ≤ R.locals := by rw [hR]; exact ⟨Nat.le_refl _, Nat.le_refl _⟩
    have hN := hE.2.1 _ _ hEs
    refine ⟨kd1_packed_ok, fun index ci fi mode hq => kf1_ok X.2.2.2.2.1 hN.1 (index, ci, fi, mode) (am_as_mem hq), fun index ci fs hq => (am_no hq).elim, fun x v hq => (am_no hq).elim, ?_, fun o t n f hq => (am_no hq).elim, rfl, rfl, by rw [hR]; exact Nat.le_refl _, by rw [hR]; exact Nat.le_refl _⟩
    intro pc sel n0 pre0 f0 hq
    exact (am_no hq).elim
noncomputable def ki1_unpack : List (Nat × Option (List Nat) × Nat × (List am_V → List am_C → Prop) × am_M) := []
noncomputable def kb1_unpack : am_B := (kd1_unpack, am_as kf1, hn_ty, fun _ => none, fun _ => none, am_as ki1_unpack, fun _ => none, 5, 2, none)
noncomputable def fn1_unpack_c41 (c : qt1) (v1 : Int32) : qt1 := (qu1_part c (v1 &&& (7 : Int32)))
def wp1_unpack_c41 (c : qt1) (v1 : Int32) : Prop := True
set_option maxRecDepth 100000 in
set_option maxHeartbeats 4000000 in
theorem rc1_unpack_41 (c : qt1) (v1 : Int32) (hp : wp1_unpack_c41 c v1) : am_lf (am_mk kb1_unpack 0 0 1) [12, 23, 32, 41] (41, [some (.inr (.inl 0)), some (.inl v1)], [], (kw_C c), 0, 0) = some (none, (kw_C (fn1_unpack_c41 c v1))) := by
  unfold wp1_unpack_c41 at hp
  refine am_lf_eq ?_
  generalize am_lf (am_mk kb1_unpack 0 0 1) [12, 23, 32, 41] = kt
  refine am_sp (w' := (kw_C (qu1_part c (v1 &&& (7 : Int32))))) (kp_C_0_part c (v1 &&& (7 : Int32))) ?_
  have e : fn1_unpack_c41 c v1 = (qu1_part c (v1 &&& (7 : Int32))) := by
    rw [fn1_unpack_c41]
  rw [e] <;> rfl
noncomputable def fn1_unpack_c32 (c : qt1) (v1 : Int32) : qt1 := (fn1_unpack_c41 (qu1_kind c ((v1 >>> ((3 : Int32) &&& 31)) &&& (3 : Int32))) v1)
def wp1_unpack_c32 (c : qt1) (v1 : Int32) : Prop := (wp1_unpack_c41 (qu1_kind c ((v1 >>> ((3 : Int32) &&& 31)) &&& (3 : Int32))) v1)
set_option maxRecDepth 100000 in
set_option maxHeartbeats 4000000 in
theorem rc1_unpack_32 (c : qt1) (v1 : Int32) (hp : wp1_unpack_c32 c v1) : am_lf (am_mk kb1_unpack 0 0 1) [12, 23, 32, 41] (32, [some (.inr (.inl 0)), some (.inl v1)], [], (kw_C c), 0, 0) = some (none, (kw_C (fn1_unpack_c32 c v1))) := by
  unfold wp1_unpack_c32 at hp
  have i41 := @rc1_unpack_41
  refine am_lf_eq ?_
  generalize am_lf (am_mk kb1_unpack 0 0 1) [12, 23, 32, 41] = kt at i41 ⊢
  refine am_sp (w' := (kw_C (qu1_kind c ((v1 >>> ((3 : Int32) &&& 31)) &&& (3 : Int32))))) (kp_C_0_kind c ((v1 >>> ((3 : Int32) &&& 31)) &&& (3 : Int32))) ?_
  have e : fn1_unpack_c32 c v1 = fn1_unpack_c41 (qu1_kind c ((v1 >>> ((3 : Int32) &&& 31)) &&& (3 : Int32))) v1 := by
    rw [fn1_unpack_c32]
  rw [e]
  exact i41 (qu1_kind c ((v1 >>> ((3 : Int32) &&& 31)) &&& (3 : Int32))) v1  hp
noncomputable def fn1_unpack_c23 (c : qt1) (v1 : Int32) : qt1 := (fn1_unpack_c32 (qu1_element c ((v1 >>> ((5 : Int32) &&& 31)) &&& (3 : Int32))) v1)
def wp1_unpack_c23 (c : qt1) (v1 : Int32) : Prop := (wp1_unpack_c32 (qu1_element c ((v1 >>> ((5 : Int32) &&& 31)) &&& (3 : Int32))) v1)
set_option maxRecDepth 100000 in
set_option maxHeartbeats 4000000 in
theorem rc1_unpack_23 (c : qt1) (v1 : Int32) (hp : wp1_unpack_c23 c v1) : am_lf (am_mk kb1_unpack 0 0 1) [12, 23, 32, 41] (23, [some (.inr (.inl 0)), some (.inl v1)], [], (kw_C c), 0, 0) = some (none, (kw_C (fn1_unpack_c23 c v1))) := by
  unfold wp1_unpack_c23 at hp
  have i32 := @rc1_unpack_32
  refine am_lf_eq ?_
  generalize am_lf (am_mk kb1_unpack 0 0 1) [12, 23, 32, 41] = kt at i32 ⊢
  refine am_sp (w' := (kw_C (qu1_element c ((v1 >>> ((5 : Int32) &&& 31)) &&& (3 : Int32))))) (kp_C_0_element c ((v1 >>> ((5 : Int32) &&& 31)) &&& (3 : Int32))) ?_
  have e : fn1_unpack_c23 c v1 = fn1_unpack_c32 (qu1_element c ((v1 >>> ((5 : Int32) &&& 31)) &&& (3 : Int32))) v1 := by
    rw [fn1_unpack_c23]
  rw [e]
  exact i32 (qu1_element c ((v1 >>> ((5 : Int32) &&& 31)) &&& (3 : Int32))) v1  hp
noncomputable def fn1_unpack_c12 (c : qt1) (v1 : Int32) : qt1 := (fn1_unpack_c23 (qu1_name c ((v1 >>> ((7 : Int32) &&& 31)) &&& (7 : Int32))) v1)
def wp1_unpack_c12 (c : qt1) (v1 : Int32) : Prop := (wp1_unpack_c23 (qu1_name c ((v1 >>> ((7 : Int32) &&& 31)) &&& (7 : Int32))) v1)
set_option maxRecDepth 100000 in
set_option maxHeartbeats 4000000 in
theorem rc1_unpack_12 (c : qt1) (v1 : Int32) (hp : wp1_unpack_c12 c v1) : am_lf (am_mk kb1_unpack 0 0 1) [12, 23, 32, 41] (12, [some (.inr (.inl 0)), some (.inl v1)], [], (kw_C c), 0, 0) = some (none, (kw_C (fn1_unpack_c12 c v1))) := by
  unfold wp1_unpack_c12 at hp
  have i23 := @rc1_unpack_23
  refine am_lf_eq ?_
  generalize am_lf (am_mk kb1_unpack 0 0 1) [12, 23, 32, 41] = kt at i23 ⊢
  refine am_sp (w' := (kw_C (qu1_name c ((v1 >>> ((7 : Int32) &&& 31)) &&& (7 : Int32))))) (kp_C_0_name c ((v1 >>> ((7 : Int32) &&& 31)) &&& (7 : Int32))) ?_
  have e : fn1_unpack_c12 c v1 = fn1_unpack_c23 (qu1_name c ((v1 >>> ((7 : Int32) &&& 31)) &&& (7 : Int32))) v1 := by
    rw [fn1_unpack_c12]
  rw [e]
  exact i23 (qu1_name c ((v1 >>> ((7 : Int32) &&& 31)) &&& (7 : Int32))) v1  hp
noncomputable def fn1_unpack (c : qt1) (p0 : Int32) : qt1 := Classical.choose (⟨_, rfl⟩ : ∃ z : qt1, z = (fn1_unpack_c12 (qu1_quote c (((((p0 >>> ((10 : Int32) &&& 31)) &&& (127 : Int32))).toUInt32 % 65536).toInt32)) p0))
theorem fq1_unpack (c : qt1) (p0 : Int32) : fn1_unpack c p0 = (fn1_unpack_c12 (qu1_quote c (((((p0 >>> ((10 : Int32) &&& 31)) &&& (127 : Int32))).toUInt32 % 65536).toInt32)) p0) := Classical.choose_spec (⟨_, rfl⟩ : ∃ z : qt1, z = (fn1_unpack_c12 (qu1_quote c (((((p0 >>> ((10 : Int32) &&& 31)) &&& (127 : Int32))).toUInt32 % 65536).toInt32)) p0))
def wp1_unpack (c : qt1) (p0 : Int32) : Prop := (am_fit .char (.inl (((((p0 >>> ((10 : Int32) &&& 31)) &&& (127 : Int32))).toUInt32 % 65536).toInt32)) = true ∧ (wp1_unpack_c12 (qu1_quote c (((((p0 >>> ((10 : Int32) &&& 31)) &&& (127 : Int32))).toUInt32 % 65536).toInt32)) p0))
set_option maxRecDepth 100000 in
set_option maxHeartbeats 4000000 in
theorem re1_unpack (c : qt1) (p0 : Int32) (hp : wp1_unpack c p0) : am_lf (am_mk kb1_unpack 0 0 1) [12, 23, 32, 41] (0, am_L0 [.inr (.inl 0), .inl p0] 2, [], (kw_C c), 0, 0) = some (none, (kw_C (fn1_unpack c p0))) := by
  unfold wp1_unpack at hp
  have i12 := @rc1_unpack_12
  refine am_lf_eq ?_
  generalize am_lf (am_mk kb1_unpack 0 0 1) [12, 23, 32, 41] = kt at i12 ⊢
  refine am_ci (c := am_fit .char (.inl (((((p0 >>> ((10 : Int32) &&& 31)) &&& (127 : Int32))).toUInt32 % 65536).toInt32)) = true) hp.1 ?_
  refine am_sp (w' := (kw_C (qu1_quote c (((((p0 >>> ((10 : Int32) &&& 31)) &&& (127 : Int32))).toUInt32 % 65536).toInt32)))) (kp_C_0_quote c (((((p0 >>> ((10 : Int32) &&& 31)) &&& (127 : Int32))).toUInt32 % 65536).toInt32)) ?_
  have e : fn1_unpack c p0 = fn1_unpack_c12 (qu1_quote c (((((p0 >>> ((10 : Int32) &&& 31)) &&& (127 : Int32))).toUInt32 % 65536).toInt32)) p0 := by
    rw [fq1_unpack]
  rw [e]
  exact i12 (qu1_quote c (((((p0 >>> ((10 : Int32) &&& 31)) &&& (127 : Int32))).toUInt32 % 65536).toInt32)) p0  hp.2
abbrev pr1_unpack : List am_V → List am_C → Prop := fun a w => ∃ (c : qt1) (p0 : Int32), a = [.inr (.inl 0), .inl p0] ∧ w = (kw_C c) ∧ wp1_unpack c p0
noncomputable def fm1_unpack : am_M := fun a w => (fun (z : qt1) => (none, (kw_C z), 0, 0)) (fn1_unpack (qs1 w 0) (am_i (am_an a 1)))
theorem fe1_unpack (c : qt1) (p0 : Int32) : fm1_unpack [.inr (.inl 0), .inl p0] (kw_C c) = (none, (kw_C (fn1_unpack c p0)), 0, 0) := rfl
set_option maxRecDepth 100000 in
set_option maxHeartbeats 4000000 in
theorem rn1_unpack : ∀ (a : List am_V) (w : List am_C), pr1_unpack a w → ∃ nq, am_ev (am_mk kb1_unpack (fm1_unpack a w).2.2.1 (fm1_unpack a w).2.2.2 w.length) [12, 23, 32, 41] nq (0, am_L0 a 2, [], w, 0, 0) = some ((fm1_unpack a w).1, (fm1_unpack a w).2.1) := by
  rintro a w ⟨c, p0, rfl, rfl, hp⟩
  rw [fe1_unpack c p0]
  exact am_lf_ev (re1_unpack c p0 hp)
theorem rl1_unpack : ∀ (a : List am_V) (w : List am_C), pr1_unpack a w → a.length ≤ 2 := by
  rintro a w ⟨c, p0, rfl, rfl, hp⟩
  exact Nat.le_of_ble_eq_true rfl
theorem pa1_unpack : ∀ a w, pr1_unpack a w → ∃ q a' ci fs r, a = .inr (.inl q) :: a' ∧ w[q]? = some (.inr (ci, fs)) ∧ hn_cl[ci]? = some r ∧ r.1 = hn_R1 := by
  rintro a w ⟨c, p0, rfl, rfl, hp⟩
  exact ⟨0, _, 1, _, _, rfl, rfl, rfl, rfl⟩
set_option maxRecDepth 100000 in
set_option maxHeartbeats 4000000 in
theorem km1_unpack {l : Launch} {E : (Nat → Prop) → State → Prop} {D : va_G} {ou : Nat → Nat} {ca : Nat → ClassId} (hE : hg_E E ou) : hg_Met l E D ou ca hy1_unpack prog_3_method_8_code 2 none 0 pr1_unpack fm1_unpack := by
  refine am_met (B := kb1_unpack) (cuts := [12, 23, 32, 41]) (nt := 5) (by decide +kernel) rfl rfl (hg_tys_ok ca) ?_ (by decide) rl1_unpack ?_ rn1_unpack
  · exact fun t ht => List.mem_cons_of_mem _ (hg_arr t ht)
  · intro a w hp ad p e R s m args below meth c hR X hEs hnm
    have hR1 : 0 ≤ R.frames ∧ 0 ≤ R.locals := by rw [hR]; exact ⟨Nat.le_refl _, Nat.le_refl _⟩
    have hN := hE.2.1 _ _ hEs
    refine ⟨kd1_unpack_ok, fun index ci fi mode hq => kf1_ok X.2.2.2.2.1 hN.1 (index, ci, fi, mode) (am_as_mem hq), fun index ci fs hq => (am_no hq).elim, fun x v hq => (am_no hq).elim, ?_, fun o t n f hq => (am_no hq).elim, rfl, rfl, by rw [hR]; exact Nat.le_refl _, by rw [hR]; exact Nat.le_refl _⟩
    intro pc sel n0 pre0 f0 hq
    exact (am_no hq).elim
noncomputable def ki1_codeInValue : List (Nat × Option (List Nat) × Nat × (List am_V → List am_C → Prop) × am_M) := []
noncomputable def kb1_codeInValue : am_B := (kd1_codeInValue, am_as kf1, hn_ty, fun _ => none, fun _ => none, am_as ki1_codeInValue, fun _ => none, 5, 1, (some .int))
noncomputable def fn1_codeInValue (c : qt1) : Int32 := Classical.choose (⟨_, rfl⟩ : ∃ z : Int32, z = (if (qg1_kind c) = (1 : Int32) then ((2 : Int32) + (qg1_part c)) else (if (qg1_kind c) = (2 : Int32) then ((24 : Int32) + (qg1_part c)) else (if (qg1_kind c) = (3 : Int32) then ((28 : Int32) + (qg1_part c)) else (1 : Int32)))))
theorem fq1_codeInValue (c : qt1) : fn1_codeInValue c = (if (qg1_kind c) = (1 : Int32) then ((2 : Int32) + (qg1_part c)) else (if (qg1_kind c) = (2 : Int32) then ((24 : Int32) + (qg1_part c)) else (if (qg1_kind c) = (3 : Int32) then ((28 : Int32) + (qg1_part c)) else (1 : Int32)))) := Classical.choose_spec (⟨_, rfl⟩ : ∃ z : Int32, z = (if (qg1_kind c) = (1 : Int32) then ((2 : Int32) + (qg1_part c)) else (if (qg1_kind c) = (2 : Int32) then ((24 : Int32) + (qg1_part c)) else (if (qg1_kind c) = (3 : Int32) then ((28 : Int32) + (qg1_part c)) else (1 : Int32)))))
def wp1_codeInValue (c : qt1) : Prop := True
set_option maxRecDepth 100000 in
set_option maxHeartbeats 4000000 in
theorem re1_codeInValue (c : qt1) (hp : wp1_codeInValue c) : am_lf (am_mk kb1_codeInValue 0 0 1) [] (0, am_L0 [.inr (.inl 0)] 1, [], (kw_C c), 0, 0) = some (some (.inl (fn1_codeInValue c)), (kw_C c)) := by
  unfold wp1_codeInValue at hp
  refine am_lf_eq ?_
  generalize am_lf (am_mk kb1_codeInValue 0 0 1) [] = kt
  refine am_if (c := (qg1_kind c) = (1 : Int32)) (fun h1 => ?_) (fun h1 => ?_)
  · have e : fn1_codeInValue c = ((2 : Int32) + (qg1_part c)) := by
      rw [fq1_codeInValue]
      rw [if_pos h1]
    rw [e] <;> rfl
  · refine am_if (c := (qg1_kind c) = (2 : Int32)) (fun h2 => ?_) (fun h2 => ?_)
    · have e : fn1_codeInValue c = ((24 : Int32) + (qg1_part c)) := by
        rw [fq1_codeInValue]
        rw [if_neg h1, if_pos h2]
      rw [e] <;> rfl
    · refine am_if (c := (qg1_kind c) = (3 : Int32)) (fun h3 => ?_) (fun h3 => ?_)
      · have e : fn1_codeInValue c = ((28 : Int32) + (qg1_part c)) := by
          rw [fq1_codeInValue]
          rw [if_neg h1, if_neg h2, if_pos h3]
        rw [e] <;> rfl
      · have e : fn1_codeInValue c = (1 : Int32) := by
          rw [fq1_codeInValue]
          rw [if_neg h1, if_neg h2, if_neg h3]
        rw [e] <;> rfl
abbrev pr1_codeInValue : List am_V → List am_C → Prop := fun a w => ∃ (c : qt1), a = [.inr (.inl 0)] ∧ w = (kw_C c) ∧ wp1_codeInValue c
noncomputable def fm1_codeInValue : am_M := fun a w => (fun (z : Int32) => (some (.inl z), (kw_C (qs1 w 0)), 0, 0)) (fn1_codeInValue (qs1 w 0))
theorem fe1_codeInValue (c : qt1) : fm1_codeInValue [.inr (.inl 0)] (kw_C c) = (some (.inl (fn1_codeInValue c)), (kw_C c), 0, 0) := rfl
set_option maxRecDepth 100000 in
set_option maxHeartbeats 4000000 in
theorem rn1_codeInValue : ∀ (a : List am_V) (w : List am_C), pr1_codeInValue a w → ∃ nq, am_ev (am_mk kb1_codeInValue (fm1_codeInValue a w).2.2.1 (fm1_codeInValue a w).2.2.2 w.length) [] nq (0, am_L0 a 1, [], w, 0, 0) = some ((fm1_codeInValue a w).1, (fm1_codeInValue a w).2.1) := by
  rintro a w ⟨c, rfl, rfl, hp⟩
  rw [fe1_codeInValue c]
  exact am_lf_ev (re1_codeInValue c hp)
theorem rl1_codeInValue : ∀ (a : List am_V) (w : List am_C), pr1_codeInValue a w → a.length ≤ 1 := by
  rintro a w ⟨c, rfl, rfl, hp⟩
  exact Nat.le_of_ble_eq_true rfl
theorem pa1_codeInValue : ∀ a w, pr1_codeInValue a w → ∃ q a' ci fs r, a = .inr (.inl q) :: a' ∧ w[q]? = some (.inr (ci, fs)) ∧ hn_cl[ci]? = some r ∧ r.1 = hn_R1 := by
  rintro a w ⟨c, rfl, rfl, hp⟩
  exact ⟨0, _, 1, _, _, rfl, rfl, rfl, rfl⟩
set_option maxRecDepth 100000 in
set_option maxHeartbeats 4000000 in
theorem km1_codeInValue {l : Launch} {E : (Nat → Prop) → State → Prop} {D : va_G} {ou : Nat → Nat} {ca : Nat → ClassId} (hE : hg_E E ou) : hg_Met l E D ou ca hy1_codeInValue prog_3_method_10_code 1 (some .int) 0 pr1_codeInValue fm1_codeInValue := by
  refine am_met (B := kb1_codeInValue) (cuts := []) (nt := 5) (by decide +kernel) rfl rfl (hg_tys_ok ca) ?_ (by decide) rl1_codeInValue ?_ rn1_codeInValue
  · exact fun t ht => List.mem_cons_of_mem _ (hg_arr t ht)
  · intro a w hp ad p e R s m args below meth c hR X hEs hnm
    have hR1 : 0 ≤ R.frames ∧ 0 ≤ R.locals := by rw [hR]; exact ⟨Nat.le_refl _, Nat.le_refl _⟩
    have hN := hE.2.1 _ _ hEs
    refine ⟨kd1_codeInValue_ok, fun index ci fi mode hq => kf1_ok X.2.2.2.2.1 hN.1 (index, ci, fi, mode) (am_as_mem hq), fun index ci fs hq => (am_no hq).elim, fun x v hq => (am_no hq).elim, ?_, fun o t n f hq => (am_no hq).elim, rfl, rfl, by rw [hR]; exact Nat.le_refl _, by rw [hR]; exact Nat.le_refl _⟩
    intro pc sel n0 pre0 f0 hq
    exact (am_no hq).elim
noncomputable def ki1_code : List (Nat × Option (List Nat) × Nat × (List am_V → List am_C → Prop) × am_M) := [(95, none, 1, pr1_codeInValue, fm1_codeInValue)]
noncomputable def kb1_code : am_B := (kd1_code, am_as kf1, hn_ty, fun _ => none, fun _ => none, am_as ki1_code, fun _ => none, 5, 2, (some .int))
noncomputable def fn1_code_c13 (c : qt1) (u0 : Int32) : Int32 := (if (qg1_name c) = (0 : Int32) then (0 : Int32) else (if (qg1_name c) = (1 : Int32) then (-1 : Int32) else (if (qg1_name c) = (2 : Int32) then (if u0 = 0 then (-1 : Int32) else (fn1_codeInValue c)) else (if (qg1_name c) = (3 : Int32) then (if u0 = 0 then (-1 : Int32) else ((8 : Int32) + (qg1_part c))) else (if (qg1_name c) = (4 : Int32) then (if u0 = 0 then (-1 : Int32) else ((12 : Int32) + (qg1_part c))) else (if (qg1_name c) = (5 : Int32) then (0 : Int32) else (-1 : Int32)))))))
def wp1_code_c13 (c : qt1) (u0 : Int32) : Prop := (((qg1_name c) = (0 : Int32) → True) ∧ (¬ (qg1_name c) = (0 : Int32) → (((qg1_name c) = (1 : Int32) → True) ∧ (¬ (qg1_name c) = (1 : Int32) → (((qg1_name c) = (2 : Int32) → ((u0 = 0 → True) ∧ (¬ u0 = 0 → (wp1_codeInValue c)))) ∧ (¬ (qg1_name c) = (2 : Int32) → True))))))
set_option maxRecDepth 100000 in
set_option maxHeartbeats 4000000 in
theorem rc1_code_13 (c : qt1) (u0 : Int32) (j1 : Option am_V) (g1 : am_loO 1 j1 = true) (hp : wp1_code_c13 c u0) : am_lf (am_mk kb1_code 0 0 1) [13] (13, [some (.inr (.inl 0)), j1], [.inl u0], (kw_C c), 0, 0) = some (some (.inl (fn1_code_c13 c u0)), (kw_C c)) := by
  unfold wp1_code_c13 at hp
  refine am_lf_eq ?_
  generalize am_lf (am_mk kb1_code 0 0 1) [13] = kt
  refine am_if (c := (qg1_name c) = (0 : Int32)) (fun h1 => ?_) (fun h1 => ?_)
  · have e : fn1_code_c13 c u0 = (0 : Int32) := by
      rw [fn1_code_c13]
      rw [if_pos h1]
    rw [e] <;> rfl
  · have q1 := hp.2 h1
    refine am_if (c := (qg1_name c) = (1 : Int32)) (fun h2 => ?_) (fun h2 => ?_)
    · have e : fn1_code_c13 c u0 = (-1 : Int32) := by
        rw [fn1_code_c13]
        rw [if_neg h1, if_pos h2]
      rw [e] <;> rfl
    · have q2 := q1.2 h2
      refine am_if (c := (qg1_name c) = (2 : Int32)) (fun h3 => ?_) (fun h3 => ?_)
      · have q3 := q2.1 h3
        refine am_if (c := u0 = 0) (fun h4 => ?_) (fun h4 => ?_)
        · have e : fn1_code_c13 c u0 = (-1 : Int32) := by
            rw [fn1_code_c13]
            rw [if_neg h1, if_neg h2, if_pos h3, if_pos h4]
          rw [e] <;> rfl
        · have q4 := q3.2 h4
          refine am_cx (pre := pr1_codeInValue) (f := fm1_codeInValue) (r := (some (.inl (fn1_codeInValue c)), (kw_C c), 0, 0)) ?_ ?_ ?_ ?_
          · exact ⟨c, rfl, rfl, q4⟩
          · exact fe1_codeInValue c
          · exact rfl
          have e : fn1_code_c13 c u0 = (fn1_codeInValue c) := by
            rw [fn1_code_c13]
            rw [if_neg h1, if_neg h2, if_pos h3, if_neg h4]
          rw [e] <;> rfl
      · refine am_if (c := (qg1_name c) = (3 : Int32)) (fun h4 => ?_) (fun h4 => ?_)
        · refine am_if (c := u0 = 0) (fun h5 => ?_) (fun h5 => ?_)
          · have e : fn1_code_c13 c u0 = (-1 : Int32) := by
              rw [fn1_code_c13]
              rw [if_neg h1, if_neg h2, if_neg h3, if_pos h4, if_pos h5]
            rw [e] <;> rfl
          · have e : fn1_code_c13 c u0 = ((8 : Int32) + (qg1_part c)) := by
              rw [fn1_code_c13]
              rw [if_neg h1, if_neg h2, if_neg h3, if_pos h4, if_neg h5]
            rw [e] <;> rfl
        · refine am_if (c := (qg1_name c) = (4 : Int32)) (fun h5 => ?_) (fun h5 => ?_)
          · refine am_if (c := u0 = 0) (fun h6 => ?_) (fun h6 => ?_)
            · have e : fn1_code_c13 c u0 = (-1 : Int32) := by
                rw [fn1_code_c13]
                rw [if_neg h1, if_neg h2, if_neg h3, if_neg h4, if_pos h5, if_pos h6]
              rw [e] <;> rfl
            · have e : fn1_code_c13 c u0 = ((12 : Int32) + (qg1_part c)) := by
                rw [fn1_code_c13]
                rw [if_neg h1, if_neg h2, if_neg h3, if_neg h4, if_pos h5, if_neg h6]
              rw [e] <;> rfl
          · refine am_if (c := (qg1_name c) = (5 : Int32)) (fun h6 => ?_) (fun h6 => ?_)
            · have e : fn1_code_c13 c u0 = (0 : Int32) := by
                rw [fn1_code_c13]
                rw [if_neg h1, if_neg h2, if_neg h3, if_neg h4, if_neg h5, if_pos h6]
              rw [e] <;> rfl
            · have e : fn1_code_c13 c u0 = (-1 : Int32) := by
                rw [fn1_code_c13]
                rw [if_neg h1, if_neg h2, if_neg h3, if_neg h4, if_neg h5, if_neg h6]
              rw [e] <;> rfl
noncomputable def fn1_code (c : qt1) : Int32 := Classical.choose (⟨_, rfl⟩ : ∃ z : Int32, z = (if (3 : Int32) ≤ (qg1_part c) then (fn1_code_c13 c (0 : Int32)) else (fn1_code_c13 c (1 : Int32))))
theorem fq1_code (c : qt1) : fn1_code c = (if (3 : Int32) ≤ (qg1_part c) then (fn1_code_c13 c (0 : Int32)) else (fn1_code_c13 c (1 : Int32))) := Classical.choose_spec (⟨_, rfl⟩ : ∃ z : Int32, z = (if (3 : Int32) ≤ (qg1_part c) then (fn1_code_c13 c (0 : Int32)) else (fn1_code_c13 c (1 : Int32))))
def wp1_code (c : qt1) : Prop := (((3 : Int32) ≤ (qg1_part c) → (wp1_code_c13 c (0 : Int32))) ∧ (¬ (3 : Int32) ≤ (qg1_part c) → (wp1_code_c13 c (1 : Int32))))
set_option maxRecDepth 100000 in
set_option maxHeartbeats 4000000 in
theorem re1_code (c : qt1) (hp : wp1_code c) : am_lf (am_mk kb1_code 0 0 1) [13] (0, am_L0 [.inr (.inl 0)] 2, [], (kw_C c), 0, 0) = some (some (.inl (fn1_code c)), (kw_C c)) := by
  unfold wp1_code at hp
  have i13 := @rc1_code_13
  refine am_lf_eq ?_
  generalize am_lf (am_mk kb1_code 0 0 1) [13] = kt at i13 ⊢
  refine am_if (c := (3 : Int32) ≤ (qg1_part c)) (fun h1 => ?_) (fun h1 => ?_)
  · have q1 := hp.1 h1
    have e : fn1_code c = fn1_code_c13 c (0 : Int32) := by
      rw [fq1_code]
      rw [if_pos h1]
    rw [e]
    exact i13 c (0 : Int32) _ rfl q1
  · have q1 := hp.2 h1
    have e : fn1_code c = fn1_code_c13 c (1 : Int32) := by
      rw [fq1_code]
      rw [if_neg h1]
    rw [e]
    exact i13 c (1 : Int32) _ rfl q1
abbrev pr1_code : List am_V → List am_C → Prop := fun a w => ∃ (c : qt1), a = [.inr (.inl 0)] ∧ w = (kw_C c) ∧ wp1_code c
noncomputable def fm1_code : am_M := fun a w => (fun (z : Int32) => (some (.inl z), (kw_C (qs1 w 0)), 0, 0)) (fn1_code (qs1 w 0))
theorem fe1_code (c : qt1) : fm1_code [.inr (.inl 0)] (kw_C c) = (some (.inl (fn1_code c)), (kw_C c), 0, 0) := rfl
set_option maxRecDepth 100000 in
set_option maxHeartbeats 4000000 in
theorem rn1_code : ∀ (a : List am_V) (w : List am_C), pr1_code a w → ∃ nq, am_ev (am_mk kb1_code (fm1_code a w).2.2.1 (fm1_code a w).2.2.2 w.length) [13] nq (0, am_L0 a 2, [], w, 0, 0) = some ((fm1_code a w).1, (fm1_code a w).2.1) := by
  rintro a w ⟨c, rfl, rfl, hp⟩
  rw [fe1_code c]
  exact am_lf_ev (re1_code c hp)
theorem rl1_code : ∀ (a : List am_V) (w : List am_C), pr1_code a w → a.length ≤ 2 := by
  rintro a w ⟨c, rfl, rfl, hp⟩
  exact Nat.le_of_ble_eq_true rfl
theorem pa1_code : ∀ a w, pr1_code a w → ∃ q a' ci fs r, a = .inr (.inl q) :: a' ∧ w[q]? = some (.inr (ci, fs)) ∧ hn_cl[ci]? = some r ∧ r.1 = hn_R1 := by
  rintro a w ⟨c, rfl, rfl, hp⟩
  exact ⟨0, _, 1, _, _, rfl, rfl, rfl, rfl⟩
set_option maxRecDepth 100000 in
set_option maxHeartbeats 4000000 in
theorem km1_code {l : Launch} {E : (Nat → Prop) → State → Prop} {D : va_G} {ou : Nat → Nat} {ca : Nat → ClassId} (hE : hg_E E ou) : hg_Met l E D ou ca hy1_code prog_3_method_9_code 2 (some .int) 1 pr1_code fm1_code := by
  refine am_met (B := kb1_code) (cuts := [13]) (nt := 5) (by decide +kernel) rfl rfl (hg_tys_ok ca) ?_ (by decide) rl1_code ?_ rn1_code
  · exact fun t ht => List.mem_cons_of_mem _ (hg_arr t ht)
  · intro a w hp ad p e R s m args below meth c hR X hEs hnm
    have hR1 : 1 ≤ R.frames ∧ 40 ≤ R.locals := by rw [hR]; exact ⟨Nat.le_refl _, Nat.le_refl _⟩
    have hN := hE.2.1 _ _ hEs
    refine ⟨kd1_code_ok, fun index ci fi mode hq => kf1_ok X.2.2.2.2.1 hN.1 (index, ci, fi, mode) (am_as_mem hq), fun index ci fs hq => (am_no hq).elim, fun x v hq => (am_no hq).elim, ?_, fun o t n f hq => (am_no hq).elim, rfl, rfl, by rw [hR]; exact Nat.le_refl _, by rw [hR]; exact Nat.le_refl _⟩
    intro pc sel n0 pre0 f0 hq
    have hz : ∀ q ∈ ki1_code, am_CK p l e R s m args below meth c D hn_cl (va_A (am_w ad ou ca w) s.heap.size) ou ca 2 q.1 q.2.2.1 q.2.2.2.1 q.2.2.2.2 := by
      refine am_allc (am_ck_V (n := 0) X hEs hE.1 (km1_codeInValue hE) (hg_good (gw_mem 529 (by decide +kernel))) rfl (List.mem_cons_of_mem _ (gw_mem 74 (by decide +kernel))) (List.mem_cons_of_mem _ (gw_mem 526 (by decide +kernel))) (List.mem_cons_of_mem _ (gw_mem 528 (by decide +kernel))) (List.mem_cons_of_mem _ (gw_mem 5 (by decide +kernel))) pa1_codeInValue (by decide +kernel) ⟨Nat.le_trans (by decide) hR1.1, Nat.le_trans (by decide) hR1.2⟩ (kd1_code_ok (95, .invokevirtual 32, 3) (List.mem_of_getElem? (i := 34) rfl))) (am_all0)
    exact hz _ (am_as_mem hq)
noncomputable def ki3_ampersand : List (Nat × Option (List Nat) × Nat × (List am_V → List am_C → Prop) × am_M) := [(14, none, 2, pr5_sign, fm5_sign), (17, some [], 1, pr4_isLetterOrDigit, fm4_isLetterOrDigit), (25, none, 2, pr5_sign, fm5_sign), (41, none, 2, pr5_sign, fm5_sign)]
noncomputable def kb3_ampersand : am_B := (kd3_ampersand, am_as kf3, hn_ty, fun _ => none, fun _ => none, am_as ki3_ampersand, fun _ => none, 5, 3, (some .int))
noncomputable def fn3_ampersand_c4 : Nat → qt5 → Int32 → Int32
  | 0, _, _ => 0
  | fu + 1, x, v2 => (if (qg5_count x) ≤ v2 then (if (fn5_sign x v2) = 0 then (0 : Int32) else (1 : Int32)) else (if (fn4_isLetterOrDigit (fn5_sign x v2)) = 0 then (if (fn5_sign x v2) = (35 : Int32) then (fn3_ampersand_c4 fu x (v2 + (1 : Int32))) else (if (fn5_sign x v2) = 0 then (0 : Int32) else (1 : Int32))) else (fn3_ampersand_c4 fu x (v2 + (1 : Int32)))))
def wp3_ampersand_c4 : Nat → qt5 → Int32 → Prop
  | 0, _, _ => False
  | fu + 1, x, v2 => (((qg5_count x) ≤ v2 → (wp5_sign x v2)) ∧ (¬ (qg5_count x) ≤ v2 → ((wp5_sign x v2) ∧ ((wp4_isLetterOrDigit (fn5_sign x v2)) ∧ (((fn4_isLetterOrDigit (fn5_sign x v2)) = 0 → ((wp5_sign x v2) ∧ (((fn5_sign x v2) = (35 : Int32) → (wp3_ampersand_c4 fu x (v2 + (1 : Int32)))) ∧ (¬ (fn5_sign x v2) = (35 : Int32) → (wp5_sign x v2))))) ∧ (¬ (fn4_isLetterOrDigit (fn5_sign x v2)) = 0 → (wp3_ampersand_c4 fu x (v2 + (1 : Int32)))))))))
set_option maxRecDepth 100000 in
set_option maxHeartbeats 4000000 in
theorem rc3_ampersand_4 : ∀ (fu : Nat) (x : qt5) (v2 : Int32) (j1 : Option am_V) (g1 : am_loO 8 j1 = true) , wp3_ampersand_c4 fu x v2 → am_lf (am_mk kb3_ampersand 0 0 8) [4] (4, [some (.inr (.inl 0)), j1, some (.inl v2)], [], (kw_S x), 0, 0) = some (some (.inl (fn3_ampersand_c4 fu x v2)), (kw_S x)) := by
  intro fu
  induction fu with
  | zero =>
    intro x v2 j1 g1 hp
    exact hp.elim
  | succ fu ih =>
    intro x v2 j1 g1 hp
    unfold wp3_ampersand_c4 at hp
    refine am_lf_eq ?_
    generalize am_lf (am_mk kb3_ampersand 0 0 8) [4] = kt at ih ⊢
    refine am_if (c := (qg5_count x) ≤ v2) (fun h2 => ?_) (fun h2 => ?_)
    · have q2 := hp.1 h2
      refine am_cx (pre := pr5_sign) (f := fm5_sign) (r := (some (.inl (fn5_sign x v2)), (kw_S x), 0, 0)) ?_ ?_ ?_ ?_
      · exact ⟨x, v2, rfl, rfl, q2⟩
      · exact fe5_sign x v2
      · exact (am_ac rfl (am_ac g1 (am_ac rfl am_a0)))
      refine am_if (c := (fn5_sign x v2) = 0) (fun h3 => ?_) (fun h3 => ?_)
      · have e : fn3_ampersand_c4 (fu + 1) x v2 = (0 : Int32) := by
          rw [fn3_ampersand_c4]
          rw [if_pos h2, if_pos h3]
        rw [e] <;> rfl
      · have e : fn3_ampersand_c4 (fu + 1) x v2 = (1 : Int32) := by
          rw [fn3_ampersand_c4]
          rw [if_pos h2, if_neg h3]
        rw [e] <;> rfl
    · have q2 := hp.2 h2
      refine am_cx (pre := pr5_sign) (f := fm5_sign) (r := (some (.inl (fn5_sign x v2)), (kw_S x), 0, 0)) ?_ ?_ ?_ ?_
      · exact ⟨x, v2, rfl, rfl, q2.1⟩
      · exact fe5_sign x v2
      · exact (am_ac rfl (am_ac g1 (am_ac rfl am_a0)))
      refine am_cy (pre := pr4_isLetterOrDigit) (f := fm4_isLetterOrDigit) (a' := [.inl (fn5_sign x v2)]) (wc := []) (w' := (kw_S x)) (r := (some (.inl (fn4_isLetterOrDigit (fn5_sign x v2))), [], 0, 0)) ?_ ?_ ?_ ?_ ?_ ?_ ?_ ?_ ?_ ?_
      · exact am_sow0 _
      · rfl
      · rfl
      · exact am_sub0 _
      · exact ⟨(fn5_sign x v2), rfl, rfl, q2.2.1⟩
      · exact fe4_isLetterOrDigit (fn5_sign x v2)
      · exact rfl
      · rfl
      · exact am_mix0 _
      refine am_if (c := (fn4_isLetterOrDigit (fn5_sign x v2)) = 0) (fun h3 => ?_) (fun h3 => ?_)
      · have q3 := q2.2.2.1 h3
        refine am_cx (pre := pr5_sign) (f := fm5_sign) (r := (some (.inl (fn5_sign x v2)), (kw_S x), 0, 0)) ?_ ?_ ?_ ?_
        · exact ⟨x, v2, rfl, rfl, q3.1⟩
        · exact fe5_sign x v2
        · exact (am_ac rfl (am_ac g1 (am_ac rfl am_a0)))
        refine am_if (c := (fn5_sign x v2) = (35 : Int32)) (fun h4 => ?_) (fun h4 => ?_)
        · have q4 := q3.2.1 h4
          have e : fn3_ampersand_c4 (fu + 1) x v2 = fn3_ampersand_c4 fu x (v2 + (1 : Int32)) := by
            rw [fn3_ampersand_c4]
            rw [if_neg h2, if_pos h3, if_pos h4]
          rw [e]
          exact ih x (v2 + (1 : Int32)) _ g1 q4
        · have q4 := q3.2.2 h4
          refine am_cx (pre := pr5_sign) (f := fm5_sign) (r := (some (.inl (fn5_sign x v2)), (kw_S x), 0, 0)) ?_ ?_ ?_ ?_
          · exact ⟨x, v2, rfl, rfl, q4⟩
          · exact fe5_sign x v2
          · exact (am_ac rfl (am_ac g1 (am_ac rfl am_a0)))
          refine am_if (c := (fn5_sign x v2) = 0) (fun h5 => ?_) (fun h5 => ?_)
          · have e : fn3_ampersand_c4 (fu + 1) x v2 = (0 : Int32) := by
              rw [fn3_ampersand_c4]
              rw [if_neg h2, if_pos h3, if_neg h4, if_pos h5]
            rw [e] <;> rfl
          · have e : fn3_ampersand_c4 (fu + 1) x v2 = (1 : Int32) := by
              rw [fn3_ampersand_c4]
              rw [if_neg h2, if_pos h3, if_neg h4, if_neg h5]
            rw [e] <;> rfl
      · have q3 := q2.2.2.2 h3
        have e : fn3_ampersand_c4 (fu + 1) x v2 = fn3_ampersand_c4 fu x (v2 + (1 : Int32)) := by
          rw [fn3_ampersand_c4]
          rw [if_neg h2, if_neg h3]
        rw [e]
        exact ih x (v2 + (1 : Int32)) _ g1 q3
noncomputable def fn3_ampersand (x : qt5) (p1 : Int32) : Int32 := Classical.choose (⟨_, rfl⟩ : ∃ z : Int32, z = (fn3_ampersand_c4 hg_fu x (p1 + (1 : Int32))))
theorem fq3_ampersand (x : qt5) (p1 : Int32) : fn3_ampersand x p1 = (fn3_ampersand_c4 hg_fu x (p1 + (1 : Int32))) := Classical.choose_spec (⟨_, rfl⟩ : ∃ z : Int32, z = (fn3_ampersand_c4 hg_fu x (p1 + (1 : Int32))))
def wp3_ampersand (x : qt5) (p1 : Int32) : Prop := (wp3_ampersand_c4 hg_fu x (p1 + (1 : Int32)))
set_option maxRecDepth 100000 in
set_option maxHeartbeats 4000000 in
theorem re3_ampersand (x : qt5) (p1 : Int32) (hp : wp3_ampersand x p1) : am_lf (am_mk kb3_ampersand 0 0 8) [4] (0, am_L0 [.inr (.inl 0), .inl p1] 3, [], (kw_S x), 0, 0) = some (some (.inl (fn3_ampersand x p1)), (kw_S x)) := by
  unfold wp3_ampersand at hp
  have i4 := @rc3_ampersand_4
  refine am_lf_eq ?_
  generalize am_lf (am_mk kb3_ampersand 0 0 8) [4] = kt at i4 ⊢
  have e : fn3_ampersand x p1 = fn3_ampersand_c4 hg_fu x (p1 + (1 : Int32)) := by
    rw [fq3_ampersand]
  rw [e]
  exact i4 hg_fu x (p1 + (1 : Int32)) _ rfl hp
abbrev pr3_ampersand : List am_V → List am_C → Prop := fun a w => ∃ (x : qt5) (p1 : Int32), a = [.inr (.inl 0), .inl p1] ∧ w = (kw_S x) ∧ wp3_ampersand x p1
noncomputable def fm3_ampersand : am_M := fun a w => (fun (z : Int32) => (some (.inl z), (kw_S (qs5 w 0)), 0, 0)) (fn3_ampersand (qs5 w 0) (am_i (am_an a 1)))
theorem fe3_ampersand (x : qt5) (p1 : Int32) : fm3_ampersand [.inr (.inl 0), .inl p1] (kw_S x) = (some (.inl (fn3_ampersand x p1)), (kw_S x), 0, 0) := rfl
set_option maxRecDepth 100000 in
set_option maxHeartbeats 4000000 in
theorem rn3_ampersand : ∀ (a : List am_V) (w : List am_C), pr3_ampersand a w → ∃ nq, am_ev (am_mk kb3_ampersand (fm3_ampersand a w).2.2.1 (fm3_ampersand a w).2.2.2 w.length) [4] nq (0, am_L0 a 3, [], w, 0, 0) = some ((fm3_ampersand a w).1, (fm3_ampersand a w).2.1) := by
  rintro a w ⟨x, p1, rfl, rfl, hp⟩
  rw [fe3_ampersand x p1]
  exact am_lf_ev (re3_ampersand x p1 hp)
theorem rl3_ampersand : ∀ (a : List am_V) (w : List am_C), pr3_ampersand a w → a.length ≤ 3 := by
  rintro a w ⟨x, p1, rfl, rfl, hp⟩
  exact Nat.le_of_ble_eq_true rfl
set_option maxRecDepth 100000 in
set_option maxHeartbeats 4000000 in
theorem km3_ampersand {l : Launch} {E : (Nat → Prop) → State → Prop} {D : va_G} {ou : Nat → Nat} {ca : Nat → ClassId} (hE : hg_E E ou) : hg_Met l E D ou ca hy3_ampersand prog_5_method_7_code 3 (some .int) 1 pr3_ampersand fm3_ampersand := by
  refine am_met (B := kb3_ampersand) (cuts := [4]) (nt := 5) (by decide +kernel) rfl rfl (hg_tys_ok ca) ?_ (by decide) rl3_ampersand ?_ rn3_ampersand
  · exact fun t ht => List.mem_cons_of_mem _ (hg_arr t ht)
  · intro a w hp ad p e R s m args below meth c hR X hEs hnm
    have hR1 : 1 ≤ R.frames ∧ 40 ≤ R.locals := by rw [hR]; exact ⟨Nat.le_refl _, Nat.le_refl _⟩
    have hN := hE.2.1 _ _ hEs
    refine ⟨kd3_ampersand_ok, fun index ci fi mode hq => kf3_ok X.2.2.2.2.1 hN.1 (index, ci, fi, mode) (am_as_mem hq), fun index ci fs hq => (am_no hq).elim, fun x v hq => (am_no hq).elim, ?_, fun o t n f hq => (am_no hq).elim, rfl, rfl, by rw [hR]; exact Nat.le_refl _, by rw [hR]; exact Nat.le_refl _⟩
    intro pc sel n0 pre0 f0 hq
    have hz : ∀ q ∈ ki3_ampersand, am_CK p l e R s m args below meth c D hn_cl (va_A (am_w ad ou ca w) s.heap.size) ou ca 3 q.1 q.2.2.1 q.2.2.2.1 q.2.2.2.2 := by
      refine am_allc (am_ck_V (n := 1) X hEs hE.1 (km5_sign hE) (hg_good (gw_mem 352 (by decide +kernel))) rfl (List.mem_cons_of_mem _ (gw_mem 73 (by decide +kernel))) (List.mem_cons_of_mem _ (gw_mem 349 (by decide +kernel))) (List.mem_cons_of_mem _ (gw_mem 350 (by decide +kernel))) (List.mem_cons_of_mem _ (gw_mem 351 (by decide +kernel))) pa5_sign (by decide +kernel) ⟨Nat.le_trans (by decide) hR1.1, Nat.le_trans (by decide) hR1.2⟩ (kd3_ampersand_ok (14, .invokevirtual 36, 3) (List.mem_of_getElem? (i := 10) rfl))) (am_allc (am_ck_S (n := 1) X hEs hE.1 (km4_isLetterOrDigit hE) (hg_good (gw_mem 358 (by decide +kernel))) rfl (List.mem_cons_of_mem _ (gw_mem 77 (by decide +kernel))) (List.mem_cons_of_mem _ (gw_mem 356 (by decide +kernel))) (List.mem_cons_of_mem _ (gw_mem 357 (by decide +kernel))) (by decide +kernel) ⟨Nat.le_trans (by decide) hR1.1, Nat.le_trans (by decide) hR1.2⟩ (kd3_ampersand_ok (17, .invokestatic 88, 3) (List.mem_of_getElem? (i := 11) rfl))) (am_allc (am_ck_V (n := 1) X hEs hE.1 (km5_sign hE) (hg_good (gw_mem 352 (by decide +kernel))) rfl (List.mem_cons_of_mem _ (gw_mem 73 (by decide +kernel))) (List.mem_cons_of_mem _ (gw_mem 349 (by decide +kernel))) (List.mem_cons_of_mem _ (gw_mem 350 (by decide +kernel))) (List.mem_cons_of_mem _ (gw_mem 351 (by decide +kernel))) pa5_sign (by decide +kernel) ⟨Nat.le_trans (by decide) hR1.1, Nat.le_trans (by decide) hR1.2⟩ (kd3_ampersand_ok (25, .invokevirtual 36, 3) (List.mem_of_getElem? (i := 15) rfl))) (am_allc (am_ck_V (n := 1) X hEs hE.1 (km5_sign hE) (hg_good (gw_mem 352 (by decide +kernel))) rfl (List.mem_cons_of_mem _ (gw_mem 73 (by decide +kernel))) (List.mem_cons_of_mem _ (gw_mem 349 (by decide +kernel))) (List.mem_cons_of_mem _ (gw_mem 350 (by decide +kernel))) (List.mem_cons_of_mem _ (gw_mem 351 (by decide +kernel))) pa5_sign (by decide +kernel) ⟨Nat.le_trans (by decide) hR1.1, Nat.le_trans (by decide) hR1.2⟩ (kd3_ampersand_ok (41, .invokevirtual 36, 3) (List.mem_of_getElem? (i := 22) rfl))) (am_all0))))
    exact hz _ (am_as_mem hq)
noncomputable def ki3_endTag : List (Nat × Option (List Nat) × Nat × (List am_V → List am_C → Prop) × am_M) := [(4, none, 2, pr5_behindLetters, fm5_behindLetters), (17, none, 2, pr5_sign, fm5_sign)]
noncomputable def kb3_endTag : am_B := (kd3_endTag, am_as kf3, hn_ty, fun _ => none, fun _ => none, am_as ki3_endTag, fun _ => none, 5, 3, (some .int))
noncomputable def fn3_endTag (x : qt5) (p1 : Int32) : Int32 := Classical.choose (⟨_, rfl⟩ : ∃ z : Int32, z = (if (fn5_behindLetters x (p1 + (2 : Int32))) ≤ (p1 + (2 : Int32)) then (0 : Int32) else (if (fn5_sign x (fn5_behindLetters x (p1 + (2 : Int32)))) = (62 : Int32) then (((fn5_behindLetters x (p1 + (2 : Int32))) + (1 : Int32)) - p1) else (0 : Int32))))
theorem fq3_endTag (x : qt5) (p1 : Int32) : fn3_endTag x p1 = (if (fn5_behindLetters x (p1 + (2 : Int32))) ≤ (p1 + (2 : Int32)) then (0 : Int32) else (if (fn5_sign x (fn5_behindLetters x (p1 + (2 : Int32)))) = (62 : Int32) then (((fn5_behindLetters x (p1 + (2 : Int32))) + (1 : Int32)) - p1) else (0 : Int32))) := Classical.choose_spec (⟨_, rfl⟩ : ∃ z : Int32, z = (if (fn5_behindLetters x (p1 + (2 : Int32))) ≤ (p1 + (2 : Int32)) then (0 : Int32) else (if (fn5_sign x (fn5_behindLetters x (p1 + (2 : Int32)))) = (62 : Int32) then (((fn5_behindLetters x (p1 + (2 : Int32))) + (1 : Int32)) - p1) else (0 : Int32))))
def wp3_endTag (x : qt5) (p1 : Int32) : Prop := ((wp5_behindLetters x (p1 + (2 : Int32))) ∧ (((fn5_behindLetters x (p1 + (2 : Int32))) ≤ (p1 + (2 : Int32)) → True) ∧ (¬ (fn5_behindLetters x (p1 + (2 : Int32))) ≤ (p1 + (2 : Int32)) → (wp5_sign x (fn5_behindLetters x (p1 + (2 : Int32)))))))
set_option maxRecDepth 100000 in
set_option maxHeartbeats 4000000 in
theorem re3_endTag (x : qt5) (p1 : Int32) (hp : wp3_endTag x p1) : am_lf (am_mk kb3_endTag 0 0 8) [] (0, am_L0 [.inr (.inl 0), .inl p1] 3, [], (kw_S x), 0, 0) = some (some (.inl (fn3_endTag x p1)), (kw_S x)) := by
  unfold wp3_endTag at hp
  refine am_lf_eq ?_
  generalize am_lf (am_mk kb3_endTag 0 0 8) [] = kt
  refine am_cx (pre := pr5_behindLetters) (f := fm5_behindLetters) (r := (some (.inl (fn5_behindLetters x (p1 + (2 : Int32)))), (kw_S x), 0, 0)) ?_ ?_ ?_ ?_
  · exact ⟨x, (p1 + (2 : Int32)), rfl, rfl, hp.1⟩
  · exact fe5_behindLetters x (p1 + (2 : Int32))
  · exact rfl
  refine am_if (c := (fn5_behindLetters x (p1 + (2 : Int32))) ≤ (p1 + (2 : Int32))) (fun h1 => ?_) (fun h1 => ?_)
  · have e : fn3_endTag x p1 = (0 : Int32) := by
      rw [fq3_endTag]
      rw [if_pos h1]
    rw [e] <;> rfl
  · have q1 := hp.2.2 h1
    refine am_cx (pre := pr5_sign) (f := fm5_sign) (r := (some (.inl (fn5_sign x (fn5_behindLetters x (p1 + (2 : Int32))))), (kw_S x), 0, 0)) ?_ ?_ ?_ ?_
    · exact ⟨x, (fn5_behindLetters x (p1 + (2 : Int32))), rfl, rfl, q1⟩
    · exact fe5_sign x (fn5_behindLetters x (p1 + (2 : Int32)))
    · exact rfl
    refine am_if (c := (fn5_sign x (fn5_behindLetters x (p1 + (2 : Int32)))) = (62 : Int32)) (fun h2 => ?_) (fun h2 => ?_)
    · have e : fn3_endTag x p1 = (((fn5_behindLetters x (p1 + (2 : Int32))) + (1 : Int32)) - p1) := by
        rw [fq3_endTag]
        rw [if_neg h1, if_pos h2]
      rw [e] <;> rfl
    · have e : fn3_endTag x p1 = (0 : Int32) := by
        rw [fq3_endTag]
        rw [if_neg h1, if_neg h2]
      rw [e] <;> rfl
abbrev pr3_endTag : List am_V → List am_C → Prop := fun a w => ∃ (x : qt5) (p1 : Int32), a = [.inr (.inl 0), .inl p1] ∧ w = (kw_S x) ∧ wp3_endTag x p1
noncomputable def fm3_endTag : am_M := fun a w => (fun (z : Int32) => (some (.inl z), (kw_S (qs5 w 0)), 0, 0)) (fn3_endTag (qs5 w 0) (am_i (am_an a 1)))
theorem fe3_endTag (x : qt5) (p1 : Int32) : fm3_endTag [.inr (.inl 0), .inl p1] (kw_S x) = (some (.inl (fn3_endTag x p1)), (kw_S x), 0, 0) := rfl
set_option maxRecDepth 100000 in
set_option maxHeartbeats 4000000 in
theorem rn3_endTag : ∀ (a : List am_V) (w : List am_C), pr3_endTag a w → ∃ nq, am_ev (am_mk kb3_endTag (fm3_endTag a w).2.2.1 (fm3_endTag a w).2.2.2 w.length) [] nq (0, am_L0 a 3, [], w, 0, 0) = some ((fm3_endTag a w).1, (fm3_endTag a w).2.1) := by
  rintro a w ⟨x, p1, rfl, rfl, hp⟩
  rw [fe3_endTag x p1]
  exact am_lf_ev (re3_endTag x p1 hp)
theorem rl3_endTag : ∀ (a : List am_V) (w : List am_C), pr3_endTag a w → a.length ≤ 3 := by
  rintro a w ⟨x, p1, rfl, rfl, hp⟩
  exact Nat.le_of_ble_eq_true rfl
set_option maxRecDepth 100000 in
set_option maxHeartbeats 4000000 in
theorem km3_endTag {l : Launch} {E : (Nat → Prop) → State → Prop} {D : va_G} {ou : Nat → Nat} {ca : Nat → ClassId} (hE : hg_E E ou) : hg_Met l E D ou ca hy3_endTag prog_5_method_4_code 3 (some .int) 2 pr3_endTag fm3_endTag := by
  refine am_met (B := kb3_endTag) (cuts := []) (nt := 5) (by decide +kernel) rfl rfl (hg_tys_ok ca) ?_ (by decide) rl3_endTag ?_ rn3_endTag
  · exact fun t ht => List.mem_cons_of_mem _ (hg_arr t ht)
  · intro a w hp ad p e R s m args below meth c hR X hEs hnm
    have hR1 : 2 ≤ R.frames ∧ 80 ≤ R.locals := by rw [hR]; exact ⟨Nat.le_refl _, Nat.le_refl _⟩
    have hN := hE.2.1 _ _ hEs
    refine ⟨kd3_endTag_ok, fun index ci fi mode hq => kf3_ok X.2.2.2.2.1 hN.1 (index, ci, fi, mode) (am_as_mem hq), fun index ci fs hq => (am_no hq).elim, fun x v hq => (am_no hq).elim, ?_, fun o t n f hq => (am_no hq).elim, rfl, rfl, by rw [hR]; exact Nat.le_refl _, by rw [hR]; exact Nat.le_refl _⟩
    intro pc sel n0 pre0 f0 hq
    have hz : ∀ q ∈ ki3_endTag, am_CK p l e R s m args below meth c D hn_cl (va_A (am_w ad ou ca w) s.heap.size) ou ca 3 q.1 q.2.2.1 q.2.2.2.1 q.2.2.2.2 := by
      refine am_allc (am_ck_V (n := 1) X hEs hE.1 (km5_behindLetters hE) (hg_good (gw_mem 420 (by decide +kernel))) rfl (List.mem_cons_of_mem _ (gw_mem 73 (by decide +kernel))) (List.mem_cons_of_mem _ (gw_mem 417 (by decide +kernel))) (List.mem_cons_of_mem _ (gw_mem 418 (by decide +kernel))) (List.mem_cons_of_mem _ (gw_mem 419 (by decide +kernel))) pa5_behindLetters (by decide +kernel) ⟨Nat.le_trans (by decide) hR1.1, Nat.le_trans (by decide) hR1.2⟩ (kd3_endTag_ok (4, .invokevirtual 62, 3) (List.mem_of_getElem? (i := 4) rfl))) (am_allc (am_ck_V (n := 1) X hEs hE.1 (km5_sign hE) (hg_good (gw_mem 352 (by decide +kernel))) rfl (List.mem_cons_of_mem _ (gw_mem 73 (by decide +kernel))) (List.mem_cons_of_mem _ (gw_mem 349 (by decide +kernel))) (List.mem_cons_of_mem _ (gw_mem 350 (by decide +kernel))) (List.mem_cons_of_mem _ (gw_mem 351 (by decide +kernel))) pa5_sign (by decide +kernel) ⟨Nat.le_trans (by decide) hR1.1, Nat.le_trans (by decide) hR1.2⟩ (kd3_endTag_ok (17, .invokevirtual 36, 3) (List.mem_of_getElem? (i := 13) rfl))) (am_all0))
    exact hz _ (am_as_mem hq)
