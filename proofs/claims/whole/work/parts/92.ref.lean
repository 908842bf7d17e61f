noncomputable def ki10_isOff : List (Nat × Option (List Nat) × Nat × (List am_V → List am_C → Prop) × am_M) := [(53, none, 3, pr10_isSafe, fm10_isSafe)]
noncomputable def kb10_isOff : am_B := (kd10_isOff, am_as kf10, hn_ty, fun _ => none, fun _ => none, am_as ki10_isOff, fun _ => none, 5, 4, (some .boolean))
noncomputable def fn10_isOff_c2 : Nat → hs → Int32 → Int32 → Int32
  | 0, _, _, _ => 0
  | fu + 1, s, v1, v2 => (if ((hm_lengths s) (v1).toNatClampNeg) ≤ v2 then (0 : Int32) else (if ((hm_items s) ((((40 : Int32) * v1) + v2)).toNatClampNeg) = (47 : Int32) then (0 : Int32) else (if ((hm_items s) ((((40 : Int32) * v1) + v2)).toNatClampNeg) = (63 : Int32) then (0 : Int32) else (if ((hm_items s) ((((40 : Int32) * v1) + v2)).toNatClampNeg) = (35 : Int32) then (0 : Int32) else (if ((hm_items s) ((((40 : Int32) * v1) + v2)).toNatClampNeg) = (58 : Int32) then (if (fn10_isSafe s v1 v2) = 0 then (1 : Int32) else (0 : Int32)) else (fn10_isOff_c2 fu s v1 (v2 + (1 : Int32))))))))
def wp10_isOff_c2 : Nat → hs → Int32 → Int32 → Prop
  | 0, _, _, _ => False
  | fu + 1, s, v1, v2 => (am_inb v1 32 = true ∧ ((((hm_lengths s) (v1).toNatClampNeg) ≤ v2 → True) ∧ (¬ ((hm_lengths s) (v1).toNatClampNeg) ≤ v2 → (am_inb (((40 : Int32) * v1) + v2) 1280 = true ∧ ((((hm_items s) ((((40 : Int32) * v1) + v2)).toNatClampNeg) = (47 : Int32) → True) ∧ (¬ ((hm_items s) ((((40 : Int32) * v1) + v2)).toNatClampNeg) = (47 : Int32) → ((((hm_items s) ((((40 : Int32) * v1) + v2)).toNatClampNeg) = (63 : Int32) → True) ∧ (¬ ((hm_items s) ((((40 : Int32) * v1) + v2)).toNatClampNeg) = (63 : Int32) → ((((hm_items s) ((((40 : Int32) * v1) + v2)).toNatClampNeg) = (35 : Int32) → True) ∧ (¬ ((hm_items s) ((((40 : Int32) * v1) + v2)).toNatClampNeg) = (35 : Int32) → ((((hm_items s) ((((40 : Int32) * v1) + v2)).toNatClampNeg) = (58 : Int32) → (wp10_isSafe s v1 v2)) ∧ (¬ ((hm_items s) ((((40 : Int32) * v1) + v2)).toNatClampNeg) = (58 : Int32) → (wp10_isOff_c2 fu s v1 (v2 + (1 : Int32)))))))))))))))
set_option maxRecDepth 100000 in
set_option maxHeartbeats 4000000 in
theorem rc10_isOff_2 : ∀ (fu : Nat) (s : hs) (v1 : Int32) (v2 : Int32) (j3 : Option am_V) (g3 : am_loO 22 j3 = true) , wp10_isOff_c2 fu s v1 v2 → am_lf (am_mk kb10_isOff 0 0 22) [2] (2, [some (.inr (.inl 0)), some (.inl v1), some (.inl v2), j3], [], (hm_w s), 0, 0) = some (some (.inl (fn10_isOff_c2 fu s v1 v2)), (hm_w s)) := by
  intro fu
  induction fu with
  | zero =>
    intro s v1 v2 j3 g3 hp
    exact hp.elim
  | succ fu ih =>
    intro s v1 v2 j3 g3 hp
    unfold wp10_isOff_c2 at hp
    refine am_lf_eq ?_
    generalize am_lf (am_mk kb10_isOff 0 0 22) [2] = kt at ih ⊢
    refine am_ci (c := am_inb v1 32 = true) hp.1 ?_
    refine am_if (c := ((hm_lengths s) (v1).toNatClampNeg) ≤ v2) (fun h2 => ?_) (fun h2 => ?_)
    · have e : fn10_isOff_c2 (fu + 1) s v1 v2 = (0 : Int32) := by
        rw [fn10_isOff_c2]
        rw [if_pos h2]
      rw [e] <;> rfl
    · have q2 := hp.2.2 h2
      refine am_ci (c := am_inb (((40 : Int32) * v1) + v2) 1280 = true) q2.1 ?_
      refine am_if (c := ((hm_items s) ((((40 : Int32) * v1) + v2)).toNatClampNeg) = (47 : Int32)) (fun h3 => ?_) (fun h3 => ?_)
      · have e : fn10_isOff_c2 (fu + 1) s v1 v2 = (0 : Int32) := by
          rw [fn10_isOff_c2]
          rw [if_neg h2, if_pos h3]
        rw [e] <;> rfl
      · have q3 := q2.2.2 h3
        refine am_if (c := ((hm_items s) ((((40 : Int32) * v1) + v2)).toNatClampNeg) = (63 : Int32)) (fun h4 => ?_) (fun h4 => ?_)
        · have e : fn10_isOff_c2 (fu + 1) s v1 v2 = (0 : Int32) := by
            rw [fn10_isOff_c2]
            rw [if_neg h2, if_neg h3, if_pos h4]
          rw [e] <;> rfl
        · have q4 := q3.2 h4
          refine am_if (c := ((hm_items s) ((((40 : Int32) * v1) + v2)).toNatClampNeg) = (35 : Int32)) (fun h5 => ?_) (fun h5 => ?_)
          · have e : fn10_isOff_c2 (fu + 1) s v1 v2 = (0 : Int32) := by
              rw [fn10_isOff_c2]
              rw [if_neg h2, if_neg h3, if_neg h4, if_pos h5]
            rw [e] <;> rfl
          · have q5 := q4.2 h5
            refine am_if (c := ((hm_items s) ((((40 : Int32) * v1) + v2)).toNatClampNeg) = (58 : Int32)) (fun h6 => ?_) (fun h6 => ?_)
            · have q6 := q5.1 h6
              refine am_cx (pre := pr10_isSafe) (f := fm10_isSafe) (r := (some (.inl (fn10_isSafe s v1 v2)), (hm_w s), 0, 0)) ?_ ?_ ?_ ?_
              · exact ⟨s, v1, v2, rfl, rfl, q6⟩
              · exact fe10_isSafe s v1 v2
              · exact rfl
              refine am_if (c := (fn10_isSafe s v1 v2) = 0) (fun h7 => ?_) (fun h7 => ?_)
              · have e : fn10_isOff_c2 (fu + 1) s v1 v2 = (1 : Int32) := by
                  rw [fn10_isOff_c2]
                  rw [if_neg h2, if_neg h3, if_neg h4, if_neg h5, if_pos h6, if_pos h7]
                rw [e] <;> rfl
              · have e : fn10_isOff_c2 (fu + 1) s v1 v2 = (0 : Int32) := by
                  rw [fn10_isOff_c2]
                  rw [if_neg h2, if_neg h3, if_neg h4, if_neg h5, if_pos h6, if_neg h7]
                rw [e] <;> rfl
            · have q6 := q5.2 h6
              have e : fn10_isOff_c2 (fu + 1) s v1 v2 = fn10_isOff_c2 fu s v1 (v2 + (1 : Int32)) := by
                rw [fn10_isOff_c2]
                rw [if_neg h2, if_neg h3, if_neg h4, if_neg h5, if_neg h6]
              rw [e]
              exact ih s v1 (v2 + (1 : Int32)) _ rfl q6
noncomputable def fn10_isOff (s : hs) (p0 : Int32) : Int32 := Classical.choose (⟨_, rfl⟩ : ∃ z : Int32, z = (fn10_isOff_c2 hg_fu s p0 (0 : Int32)))
theorem fq10_isOff (s : hs) (p0 : Int32) : fn10_isOff s p0 = (fn10_isOff_c2 hg_fu s p0 (0 : Int32)) := Classical.choose_spec (⟨_, rfl⟩ : ∃ z : Int32, z = (fn10_isOff_c2 hg_fu s p0 (0 : Int32)))
def wp10_isOff (s : hs) (p0 : Int32) : Prop := (wp10_isOff_c2 hg_fu s p0 (0 : Int32))
set_option maxRecDepth 100000 in
set_option maxHeartbeats 4000000 in
theorem re10_isOff (s : hs) (p0 : Int32) (hp : wp10_isOff s p0) : am_lf (am_mk kb10_isOff 0 0 22) [2] (0, am_L0 [.inr (.inl 0), .inl p0] 4, [], (hm_w s), 0, 0) = some (some (.inl (fn10_isOff s p0)), (hm_w s)) := by
  unfold wp10_isOff at hp
  have i2 := @rc10_isOff_2
  refine am_lf_eq ?_
  generalize am_lf (am_mk kb10_isOff 0 0 22) [2] = kt at i2 ⊢
  have e : fn10_isOff s p0 = fn10_isOff_c2 hg_fu s p0 (0 : Int32) := by
    rw [fq10_isOff]
  rw [e]
  exact i2 hg_fu s p0 (0 : Int32) _ rfl hp
abbrev pr10_isOff : List am_V → List am_C → Prop := fun a w => ∃ (s : hs) (p0 : Int32), a = [.inr (.inl 0), .inl p0] ∧ w = (hm_w s) ∧ wp10_isOff s p0
noncomputable def fm10_isOff : am_M := fun a w => (fun (z : Int32) => (some (.inl z), (hm_w (hm_st w 0)), 0, 0)) (fn10_isOff (hm_st w 0) (am_i (am_an a 1)))
theorem fe10_isOff (s : hs) (p0 : Int32) : fm10_isOff [.inr (.inl 0), .inl p0] (hm_w s) = (some (.inl (fn10_isOff s p0)), (hm_w s), 0, 0) := rfl
set_option maxRecDepth 100000 in
set_option maxHeartbeats 4000000 in
theorem rn10_isOff : ∀ (a : List am_V) (w : List am_C), pr10_isOff a w → ∃ nq, am_ev (am_mk kb10_isOff (fm10_isOff a w).2.2.1 (fm10_isOff a w).2.2.2 w.length) [2] nq (0, am_L0 a 4, [], w, 0, 0) = some ((fm10_isOff a w).1, (fm10_isOff a w).2.1) := by
  rintro a w ⟨s, p0, rfl, rfl, hp⟩
  rw [fe10_isOff s p0]
  exact am_lf_ev (re10_isOff s p0 hp)
theorem rl10_isOff : ∀ (a : List am_V) (w : List am_C), pr10_isOff a w → a.length ≤ 4 := by
  rintro a w ⟨s, p0, rfl, rfl, hp⟩
  exact Nat.le_of_ble_eq_true rfl
theorem pa10_isOff : ∀ a w, pr10_isOff a w → ∃ q a' ci fs r, a = .inr (.inl q) :: a' ∧ w[q]? = some (.inr (ci, fs)) ∧ hn_cl[ci]? = some r ∧ r.1 = hn_R10 := by
  rintro a w ⟨s, p0, rfl, rfl, hp⟩
  exact ⟨0, _, 10, _, _, rfl, rfl, rfl, rfl⟩
set_option maxRecDepth 100000 in
set_option maxHeartbeats 4000000 in
theorem km10_isOff {l : Launch} {E : (Nat → Prop) → State → Prop} {D : va_G} {ou : Nat → Nat} {ca : Nat → ClassId} (hE : am_EC E) : hg_Met l E D ou ca hy10_isOff prog_12_method_63_code 4 (some .boolean) 2 pr10_isOff fm10_isOff := by
  refine am_met (B := kb10_isOff) (cuts := [2]) (nt := 5) (by decide +kernel) rfl rfl (hg_tys_ok ca) ?_ (by decide) rl10_isOff ?_ rn10_isOff
  · exact fun t ht => List.mem_cons_of_mem _ (hg_arr t ht)
  · intro a w hp ad p e R s m args below meth c hR X hEs hnm
    have hR1 : 2 ≤ R.frames ∧ 80 ≤ R.locals := by rw [hR]; exact ⟨Nat.le_refl _, Nat.le_refl _⟩
    refine ⟨kd10_isOff_ok, fun index ci fi mode hq => kf10_ok X.2.2.2.2.1 (index, ci, fi, mode) (am_as_mem hq), fun index ci fs hq => (am_no hq).elim, fun x v hq => (am_no hq).elim, ?_, fun o t n f hq => (am_no hq).elim, rfl, rfl, by rw [hR]; exact Nat.le_refl _, by rw [hR]; exact Nat.le_refl _⟩
    intro pc sel n0 pre0 f0 hq
    have hz : ∀ q ∈ ki10_isOff, am_CK p l e R s m args below meth c D hn_cl (va_A (am_w ad ou ca w) s.heap.size) ou ca 4 q.1 q.2.2.1 q.2.2.2.1 q.2.2.2.2 := by
      refine am_allc (am_ck_V (n := 2) X hEs hE (km10_isSafe hE) (hg_good (gw_mem 1312 (by decide +kernel))) rfl (List.mem_cons_of_mem _ (gw_mem 76 (by decide +kernel))) (List.mem_cons_of_mem _ (gw_mem 1309 (by decide +kernel))) (List.mem_cons_of_mem _ (gw_mem 1311 (by decide +kernel))) (List.mem_cons_of_mem _ (gw_mem 54 (by decide +kernel))) pa10_isSafe (by decide +kernel) ⟨Nat.le_trans (by decide) hR1.1, Nat.le_trans (by decide) hR1.2⟩ (kd10_isOff_ok (53, .invokevirtual 277, 3) (List.mem_of_getElem? (i := 34) rfl))) (am_all0)
    exact hz _ (am_as_mem hq)
noncomputable def ki10_staysInCode : List (Nat × Option (List Nat) × Nat × (List am_V → List am_C → Prop) × am_M) := [(1, some [], 1, pr10_isWord, fm10_isWord)]
noncomputable def kb10_staysInCode : am_B := (kd10_staysInCode, am_as kf10, hn_ty, fun _ => none, fun _ => none, am_as ki10_staysInCode, fun _ => none, 5, 1, (some .boolean))
noncomputable def fn10_staysInCode_c37 : Int32 := (1 : Int32)
def wp10_staysInCode_c37 : Prop := True
set_option maxRecDepth 100000 in
set_option maxHeartbeats 4000000 in
theorem rc10_staysInCode_37 (j0 : Option am_V) (g0 : am_loO 0 j0 = true) (hp : wp10_staysInCode_c37 ) : am_lf (am_mk kb10_staysInCode 0 0 0) [37] (37, [j0], [], [], 0, 0) = some (some (.inl (fn10_staysInCode_c37 )), []) := by
  unfold wp10_staysInCode_c37 at hp
  refine am_lf_eq ?_
  generalize am_lf (am_mk kb10_staysInCode 0 0 0) [37] = kt
  have e : fn10_staysInCode_c37  = (1 : Int32) := by
    rw [fn10_staysInCode_c37]
  rw [e] <;> rfl
noncomputable def fn10_staysInCode (p0 : Int32) : Int32 := Classical.choose (⟨_, rfl⟩ : ∃ z : Int32, z = (if (fn10_isWord p0) = 0 then (if p0 = (32 : Int32) then (fn10_staysInCode_c37 ) else (if p0 = (46 : Int32) then (fn10_staysInCode_c37 ) else (if p0 = (44 : Int32) then (fn10_staysInCode_c37 ) else (if p0 = (45 : Int32) then (fn10_staysInCode_c37 ) else (if p0 = (95 : Int32) then (fn10_staysInCode_c37 ) else (0 : Int32)))))) else (fn10_staysInCode_c37 )))
theorem fq10_staysInCode (p0 : Int32) : fn10_staysInCode p0 = (if (fn10_isWord p0) = 0 then (if p0 = (32 : Int32) then (fn10_staysInCode_c37 ) else (if p0 = (46 : Int32) then (fn10_staysInCode_c37 ) else (if p0 = (44 : Int32) then (fn10_staysInCode_c37 ) else (if p0 = (45 : Int32) then (fn10_staysInCode_c37 ) else (if p0 = (95 : Int32) then (fn10_staysInCode_c37 ) else (0 : Int32)))))) else (fn10_staysInCode_c37 )) := Classical.choose_spec (⟨_, rfl⟩ : ∃ z : Int32, z = (if (fn10_isWord p0) = 0 then (if p0 = (32 : Int32) then (fn10_staysInCode_c37 ) else (if p0 = (46 : Int32) then (fn10_staysInCode_c37 ) else (if p0 = (44 : Int32) then (fn10_staysInCode_c37 ) else (if p0 = (45 : Int32) then (fn10_staysInCode_c37 ) else (if p0 = (95 : Int32) then (fn10_staysInCode_c37 ) else (0 : Int32)))))) else (fn10_staysInCode_c37 )))
def wp10_staysInCode (p0 : Int32) : Prop := ((wp10_isWord p0) ∧ (((fn10_isWord p0) = 0 → ((p0 = (32 : Int32) → (wp10_staysInCode_c37 )) ∧ (¬ p0 = (32 : Int32) → ((p0 = (46 : Int32) → (wp10_staysInCode_c37 )) ∧ (¬ p0 = (46 : Int32) → ((p0 = (44 : Int32) → (wp10_staysInCode_c37 )) ∧ (¬ p0 = (44 : Int32) → ((p0 = (45 : Int32) → (wp10_staysInCode_c37 )) ∧ (¬ p0 = (45 : Int32) → ((p0 = (95 : Int32) → (wp10_staysInCode_c37 )) ∧ (¬ p0 = (95 : Int32) → True))))))))))) ∧ (¬ (fn10_isWord p0) = 0 → (wp10_staysInCode_c37 ))))
set_option maxRecDepth 100000 in
set_option maxHeartbeats 4000000 in
theorem re10_staysInCode (p0 : Int32) (hp : wp10_staysInCode p0) : am_lf (am_mk kb10_staysInCode 0 0 0) [37] (0, am_L0 [.inl p0] 1, [], [], 0, 0) = some (some (.inl (fn10_staysInCode p0)), []) := by
  unfold wp10_staysInCode at hp
  have i37 := @rc10_staysInCode_37
  refine am_lf_eq ?_
  generalize am_lf (am_mk kb10_staysInCode 0 0 0) [37] = kt at i37 ⊢
  refine am_cy (pre := pr10_isWord) (f := fm10_isWord) (a' := [.inl p0]) (wc := []) (w' := []) (r := (some (.inl (fn10_isWord p0)), [], 0, 0)) ?_ ?_ ?_ ?_ ?_ ?_ ?_ ?_ ?_ ?_
  · exact am_sow0 _
  · rfl
  · rfl
  · exact am_sub0 _
  · exact ⟨p0, rfl, rfl, hp.1⟩
  · exact fe10_isWord p0
  · exact rfl
  · rfl
  · exact am_mix0 _
  refine am_if (c := (fn10_isWord p0) = 0) (fun h1 => ?_) (fun h1 => ?_)
  · have q1 := hp.2.1 h1
    refine am_if (c := p0 = (32 : Int32)) (fun h2 => ?_) (fun h2 => ?_)
    · have q2 := q1.1 h2
      have e : fn10_staysInCode p0 = fn10_staysInCode_c37  := by
        rw [fq10_staysInCode]
        rw [if_pos h1, if_pos h2]
      rw [e]
      exact i37  _ rfl q2
    · have q2 := q1.2 h2
      refine am_if (c := p0 = (46 : Int32)) (fun h3 => ?_) (fun h3 => ?_)
      · have q3 := q2.1 h3
        have e : fn10_staysInCode p0 = fn10_staysInCode_c37  := by
          rw [fq10_staysInCode]
          rw [if_pos h1, if_neg h2, if_pos h3]
        rw [e]
        exact i37  _ rfl q3
      · have q3 := q2.2 h3
        refine am_if (c := p0 = (44 : Int32)) (fun h4 => ?_) (fun h4 => ?_)
        · have q4 := q3.1 h4
          have e : fn10_staysInCode p0 = fn10_staysInCode_c37  := by
            rw [fq10_staysInCode]
            rw [if_pos h1, if_neg h2, if_neg h3, if_pos h4]
          rw [e]
          exact i37  _ rfl q4
        · have q4 := q3.2 h4
          refine am_if (c := p0 = (45 : Int32)) (fun h5 => ?_) (fun h5 => ?_)
          · have q5 := q4.1 h5
            have e : fn10_staysInCode p0 = fn10_staysInCode_c37  := by
              rw [fq10_staysInCode]
              rw [if_pos h1, if_neg h2, if_neg h3, if_neg h4, if_pos h5]
            rw [e]
            exact i37  _ rfl q5
          · have q5 := q4.2 h5
            refine am_if (c := p0 = (95 : Int32)) (fun h6 => ?_) (fun h6 => ?_)
            · have q6 := q5.1 h6
              have e : fn10_staysInCode p0 = fn10_staysInCode_c37  := by
                rw [fq10_staysInCode]
                rw [if_pos h1, if_neg h2, if_neg h3, if_neg h4, if_neg h5, if_pos h6]
              rw [e]
              exact i37  _ rfl q6
            · have e : fn10_staysInCode p0 = (0 : Int32) := by
                rw [fq10_staysInCode]
                rw [if_pos h1, if_neg h2, if_neg h3, if_neg h4, if_neg h5, if_neg h6]
              rw [e] <;> rfl
  · have q1 := hp.2.2 h1
    have e : fn10_staysInCode p0 = fn10_staysInCode_c37  := by
      rw [fq10_staysInCode]
      rw [if_neg h1]
    rw [e]
    exact i37  _ rfl q1
abbrev pr10_staysInCode : List am_V → List am_C → Prop := fun a w => ∃ (p0 : Int32), a = [.inl p0] ∧ w = [] ∧ wp10_staysInCode p0
noncomputable def fm10_staysInCode : am_M := fun a w => (fun (z : Int32) => (some (.inl z), [], 0, 0)) (fn10_staysInCode (am_i (am_an a 0)))
theorem fe10_staysInCode (p0 : Int32) : fm10_staysInCode [.inl p0] [] = (some (.inl (fn10_staysInCode p0)), [], 0, 0) := rfl
set_option maxRecDepth 100000 in
set_option maxHeartbeats 4000000 in
theorem rn10_staysInCode : ∀ (a : List am_V) (w : List am_C), pr10_staysInCode a w → ∃ nq, am_ev (am_mk kb10_staysInCode (fm10_staysInCode a w).2.2.1 (fm10_staysInCode a w).2.2.2 w.length) [37] nq (0, am_L0 a 1, [], w, 0, 0) = some ((fm10_staysInCode a w).1, (fm10_staysInCode a w).2.1) := by
  rintro a w ⟨p0, rfl, rfl, hp⟩
  rw [fe10_staysInCode p0]
  exact am_lf_ev (re10_staysInCode p0 hp)
theorem rl10_staysInCode : ∀ (a : List am_V) (w : List am_C), pr10_staysInCode a w → a.length ≤ 1 := by
  rintro a w ⟨p0, rfl, rfl, hp⟩
  exact Nat.le_of_ble_eq_true rfl
set_option maxRecDepth 100000 in
set_option maxHeartbeats 4000000 in
theorem km10_staysInCode {l : Launch} {E : (Nat → Prop) → State → Prop} {D : va_G} {ou : Nat → Nat} {ca : Nat → ClassId} (hE : am_EC E) : hg_Met l E D ou ca hy10_staysInCode prog_12_method_64_code 1 (some .boolean) 2 pr10_staysInCode fm10_staysInCode := by
  refine am_met (B := kb10_staysInCode) (cuts := [37]) (nt := 5) (by decide +kernel) rfl rfl (hg_tys_ok ca) ?_ (by decide) rl10_staysInCode ?_ rn10_staysInCode
  · exact fun t ht => List.mem_cons_of_mem _ (hg_arr t ht)
  · intro a w hp ad p e R s m args below meth c hR X hEs hnm
    have hR1 : 2 ≤ R.frames ∧ 80 ≤ R.locals := by rw [hR]; exact ⟨Nat.le_refl _, Nat.le_refl _⟩
    refine ⟨kd10_staysInCode_ok, fun index ci fi mode hq => kf10_ok X.2.2.2.2.1 (index, ci, fi, mode) (am_as_mem hq), fun index ci fs hq => (am_no hq).elim, fun x v hq => (am_no hq).elim, ?_, fun o t n f hq => (am_no hq).elim, rfl, rfl, by rw [hR]; exact Nat.le_refl _, by rw [hR]; exact Nat.le_refl _⟩
    intro pc sel n0 pre0 f0 hq
    have hz : ∀ q ∈ ki10_staysInCode, am_CK p l e R s m args below meth c D hn_cl (va_A (am_w ad ou ca w) s.heap.size) ou ca 1 q.1 q.2.2.1 q.2.2.2.1 q.2.2.2.2 := by
      refine am_allc (am_ck_S (n := 1) X hEs hE (km10_isWord hE) (hg_good (gw_mem 1154 (by decide +kernel))) rfl (List.mem_cons_of_mem _ (gw_mem 76 (by decide +kernel))) (List.mem_cons_of_mem _ (gw_mem 1152 (by decide +kernel))) (List.mem_cons_of_mem _ (gw_mem 1153 (by decide +kernel))) (by decide +kernel) ⟨Nat.le_trans (by decide) hR1.1, Nat.le_trans (by decide) hR1.2⟩ (kd10_staysInCode_ok (1, .invokestatic 140, 3) (List.mem_of_getElem? (i := 1) rfl))) (am_all0)
    exact hz _ (am_as_mem hq)
noncomputable def ki10_putCode : List (Nat × Option (List Nat) × Nat × (List am_V → List am_C → Prop) × am_M) := [(1, some [], 1, pr10_staysInCode, fm10_staysInCode), (9, none, 2, pr10_put, fm10_put), (16, none, 2, pr10_put, fm10_put), (26, none, 2, pr10_put, fm10_put), (31, none, 2, pr10_putHex, fm10_putHex), (41, none, 2, pr10_put, fm10_put)]
noncomputable def kb10_putCode : am_B := (kd10_putCode, am_as kf10, hn_ty, fun _ => none, fun _ => none, am_as ki10_putCode, fun _ => none, 5, 3, none)
noncomputable def fn10_putCode_c34 (s : hs) (v2 : Int32) : hs := (if v2 = 0 then s else (fn10_put s (32 : Int32)))
def wp10_putCode_c34 (s : hs) (v2 : Int32) : Prop := ((v2 = 0 → True) ∧ (¬ v2 = 0 → (wp10_put s (32 : Int32))))
set_option maxRecDepth 100000 in
set_option maxHeartbeats 4000000 in
theorem rc10_putCode_34 (s : hs) (v2 : Int32) (j1 : Option am_V) (g1 : am_loO 22 j1 = true) (hp : wp10_putCode_c34 s v2) : am_lf (am_mk kb10_putCode 0 0 22) [19, 29, 34] (34, [some (.inr (.inl 0)), j1, some (.inl v2)], [], (hm_w s), 0, 0) = some (none, (hm_w (fn10_putCode_c34 s v2))) := by
  unfold wp10_putCode_c34 at hp
  refine am_lf_eq ?_
  generalize am_lf (am_mk kb10_putCode 0 0 22) [19, 29, 34] = kt
  refine am_if (c := v2 = 0) (fun h1 => ?_) (fun h1 => ?_)
  · have e : fn10_putCode_c34 s v2 = s := by
      rw [fn10_putCode_c34]
      rw [if_pos h1]
    rw [e] <;> rfl
  · have q1 := hp.2 h1
    refine am_cx (pre := pr10_put) (f := fm10_put) (r := (none, (hm_w (fn10_put s (32 : Int32))), 0, 0)) ?_ ?_ ?_ ?_
    · exact ⟨s, (32 : Int32), rfl, rfl, q1⟩
    · exact fe10_put s (32 : Int32)
    · exact (am_ac rfl (am_ac g1 (am_ac rfl am_a0)))
    have e : fn10_putCode_c34 s v2 = (fn10_put s (32 : Int32)) := by
      rw [fn10_putCode_c34]
      rw [if_neg h1]
    rw [e] <;> rfl
noncomputable def fn10_putCode_c29 (s : hs) (v1 : Int32) (v2 : Int32) : hs := (fn10_putCode_c34 (fn10_putHex s v1) v2)
def wp10_putCode_c29 (s : hs) (v1 : Int32) (v2 : Int32) : Prop := ((wp10_putHex s v1) ∧ (wp10_putCode_c34 (fn10_putHex s v1) v2))
set_option maxRecDepth 100000 in
set_option maxHeartbeats 4000000 in
theorem rc10_putCode_29 (s : hs) (v1 : Int32) (v2 : Int32) (hp : wp10_putCode_c29 s v1 v2) : am_lf (am_mk kb10_putCode 0 0 22) [19, 29, 34] (29, [some (.inr (.inl 0)), some (.inl v1), some (.inl v2)], [], (hm_w s), 0, 0) = some (none, (hm_w (fn10_putCode_c29 s v1 v2))) := by
  unfold wp10_putCode_c29 at hp
  have i34 := @rc10_putCode_34
  refine am_lf_eq ?_
  generalize am_lf (am_mk kb10_putCode 0 0 22) [19, 29, 34] = kt at i34 ⊢
  refine am_cx (pre := pr10_putHex) (f := fm10_putHex) (r := (none, (hm_w (fn10_putHex s v1)), 0, 0)) ?_ ?_ ?_ ?_
  · exact ⟨s, v1, rfl, rfl, hp.1⟩
  · exact fe10_putHex s v1
  · exact rfl
  have e : fn10_putCode_c29 s v1 v2 = fn10_putCode_c34 (fn10_putHex s v1) v2 := by
    rw [fn10_putCode_c29]
  rw [e]
  exact i34 (fn10_putHex s v1) v2 _ rfl hp.2
noncomputable def fn10_putCode_c19 (s : hs) (v1 : Int32) (v2 : Int32) : hs := (if v2 = 0 then (fn10_putCode_c29 (fn10_put s (120 : Int32)) v1 v2) else (fn10_putCode_c29 s v1 v2))
def wp10_putCode_c19 (s : hs) (v1 : Int32) (v2 : Int32) : Prop := ((v2 = 0 → ((wp10_put s (120 : Int32)) ∧ (wp10_putCode_c29 (fn10_put s (120 : Int32)) v1 v2))) ∧ (¬ v2 = 0 → (wp10_putCode_c29 s v1 v2)))
set_option maxRecDepth 100000 in
set_option maxHeartbeats 4000000 in
theorem rc10_putCode_19 (s : hs) (v1 : Int32) (v2 : Int32) (hp : wp10_putCode_c19 s v1 v2) : am_lf (am_mk kb10_putCode 0 0 22) [19, 29, 34] (19, [some (.inr (.inl 0)), some (.inl v1), some (.inl v2)], [], (hm_w s), 0, 0) = some (none, (hm_w (fn10_putCode_c19 s v1 v2))) := by
  unfold wp10_putCode_c19 at hp
  have i29 := @rc10_putCode_29
  refine am_lf_eq ?_
  generalize am_lf (am_mk kb10_putCode 0 0 22) [19, 29, 34] = kt at i29 ⊢
  refine am_if (c := v2 = 0) (fun h1 => ?_) (fun h1 => ?_)
  · have q1 := hp.1 h1
    refine am_cx (pre := pr10_put) (f := fm10_put) (r := (none, (hm_w (fn10_put s (120 : Int32))), 0, 0)) ?_ ?_ ?_ ?_
    · exact ⟨s, (120 : Int32), rfl, rfl, q1.1⟩
    · exact fe10_put s (120 : Int32)
    · exact rfl
    have e : fn10_putCode_c19 s v1 v2 = fn10_putCode_c29 (fn10_put s (120 : Int32)) v1 v2 := by
      rw [fn10_putCode_c19]
      rw [if_pos h1]
    rw [e]
    exact i29 (fn10_put s (120 : Int32)) v1 v2  q1.2
  · have q1 := hp.2 h1
    have e : fn10_putCode_c19 s v1 v2 = fn10_putCode_c29 s v1 v2 := by
      rw [fn10_putCode_c19]
      rw [if_neg h1]
    rw [e]
    exact i29 s v1 v2  q1
noncomputable def fn10_putCode (s : hs) (p0 : Int32) (p1 : Int32) : hs := Classical.choose (⟨_, rfl⟩ : ∃ z : hs, z = (if (fn10_staysInCode p0) = 0 then (fn10_putCode_c19 (fn10_put s (92 : Int32)) p0 p1) else (fn10_put s p0)))
theorem fq10_putCode (s : hs) (p0 : Int32) (p1 : Int32) : fn10_putCode s p0 p1 = (if (fn10_staysInCode p0) = 0 then (fn10_putCode_c19 (fn10_put s (92 : Int32)) p0 p1) else (fn10_put s p0)) := Classical.choose_spec (⟨_, rfl⟩ : ∃ z : hs, z = (if (fn10_staysInCode p0) = 0 then (fn10_putCode_c19 (fn10_put s (92 : Int32)) p0 p1) else (fn10_put s p0)))
def wp10_putCode (s : hs) (p0 : Int32) (p1 : Int32) : Prop := ((wp10_staysInCode p0) ∧ (((fn10_staysInCode p0) = 0 → ((wp10_put s (92 : Int32)) ∧ (wp10_putCode_c19 (fn10_put s (92 : Int32)) p0 p1))) ∧ (¬ (fn10_staysInCode p0) = 0 → (wp10_put s p0))))
set_option maxRecDepth 100000 in
set_option maxHeartbeats 4000000 in
theorem re10_putCode (s : hs) (p0 : Int32) (p1 : Int32) (hp : wp10_putCode s p0 p1) : am_lf (am_mk kb10_putCode 0 0 22) [19, 29, 34] (0, am_L0 [.inr (.inl 0), .inl p0, .inl p1] 3, [], (hm_w s), 0, 0) = some (none, (hm_w (fn10_putCode s p0 p1))) := by
  unfold wp10_putCode at hp
  have i19 := @rc10_putCode_19
  refine am_lf_eq ?_
  generalize am_lf (am_mk kb10_putCode 0 0 22) [19, 29, 34] = kt at i19 ⊢
  refine am_cy (pre := pr10_staysInCode) (f := fm10_staysInCode) (a' := [.inl p0]) (wc := []) (w' := (hm_w s)) (r := (some (.inl (fn10_staysInCode p0)), [], 0, 0)) ?_ ?_ ?_ ?_ ?_ ?_ ?_ ?_ ?_ ?_
  · exact am_sow0 _
  · rfl
  · rfl
  · exact am_sub0 _
  · exact ⟨p0, rfl, rfl, hp.1⟩
  · exact fe10_staysInCode p0
  · exact rfl
  · rfl
  · exact am_mix0 _
  refine am_if (c := (fn10_staysInCode p0) = 0) (fun h1 => ?_) (fun h1 => ?_)
  · have q1 := hp.2.1 h1
    refine am_cx (pre := pr10_put) (f := fm10_put) (r := (none, (hm_w (fn10_put s (92 : Int32))), 0, 0)) ?_ ?_ ?_ ?_
    · exact ⟨s, (92 : Int32), rfl, rfl, q1.1⟩
    · exact fe10_put s (92 : Int32)
    · exact rfl
    have e : fn10_putCode s p0 p1 = fn10_putCode_c19 (fn10_put s (92 : Int32)) p0 p1 := by
      rw [fq10_putCode]
      rw [if_pos h1]
    rw [e]
    exact i19 (fn10_put s (92 : Int32)) p0 p1  q1.2
  · have q1 := hp.2.2 h1
    refine am_cx (pre := pr10_put) (f := fm10_put) (r := (none, (hm_w (fn10_put s p0)), 0, 0)) ?_ ?_ ?_ ?_
    · exact ⟨s, p0, rfl, rfl, q1⟩
    · exact fe10_put s p0
    · exact rfl
    have e : fn10_putCode s p0 p1 = (fn10_put s p0) := by
      rw [fq10_putCode]
      rw [if_neg h1]
    rw [e] <;> rfl
abbrev pr10_putCode : List am_V → List am_C → Prop := fun a w => ∃ (s : hs) (p0 : Int32) (p1 : Int32), a = [.inr (.inl 0), .inl p0, .inl p1] ∧ w = (hm_w s) ∧ wp10_putCode s p0 p1
noncomputable def fm10_putCode : am_M := fun a w => (fun (z : hs) => (none, (hm_w z), 0, 0)) (fn10_putCode (hm_st w 0) (am_i (am_an a 1)) (am_i (am_an a 2)))
theorem fe10_putCode (s : hs) (p0 : Int32) (p1 : Int32) : fm10_putCode [.inr (.inl 0), .inl p0, .inl p1] (hm_w s) = (none, (hm_w (fn10_putCode s p0 p1)), 0, 0) := rfl
set_option maxRecDepth 100000 in
set_option maxHeartbeats 4000000 in
theorem rn10_putCode : ∀ (a : List am_V) (w : List am_C), pr10_putCode a w → ∃ nq, am_ev (am_mk kb10_putCode (fm10_putCode a w).2.2.1 (fm10_putCode a w).2.2.2 w.length) [19, 29, 34] nq (0, am_L0 a 3, [], w, 0, 0) = some ((fm10_putCode a w).1, (fm10_putCode a w).2.1) := by
  rintro a w ⟨s, p0, p1, rfl, rfl, hp⟩
  rw [fe10_putCode s p0 p1]
  exact am_lf_ev (re10_putCode s p0 p1 hp)
theorem rl10_putCode : ∀ (a : List am_V) (w : List am_C), pr10_putCode a w → a.length ≤ 3 := by
  rintro a w ⟨s, p0, p1, rfl, rfl, hp⟩
  exact Nat.le_of_ble_eq_true rfl
theorem pa10_putCode : ∀ a w, pr10_putCode a w → ∃ q a' ci fs r, a = .inr (.inl q) :: a' ∧ w[q]? = some (.inr (ci, fs)) ∧ hn_cl[ci]? = some r ∧ r.1 = hn_R10 := by
  rintro a w ⟨s, p0, p1, rfl, rfl, hp⟩
  exact ⟨0, _, 10, _, _, rfl, rfl, rfl, rfl⟩
set_option maxRecDepth 100000 in
set_option maxHeartbeats 4000000 in
theorem km10_putCode {l : Launch} {E : (Nat → Prop) → State → Prop} {D : va_G} {ou : Nat → Nat} {ca : Nat → ClassId} (hE : am_EC E) : hg_Met l E D ou ca hy10_putCode prog_12_method_65_code 3 none 3 pr10_putCode fm10_putCode := by
  refine am_met (B := kb10_putCode) (cuts := [19, 29, 34]) (nt := 5) (by decide +kernel) rfl rfl (hg_tys_ok ca) ?_ (by decide) rl10_putCode ?_ rn10_putCode
  · exact fun t ht => List.mem_cons_of_mem _ (hg_arr t ht)
  · intro a w hp ad p e R s m args below meth c hR X hEs hnm
    have hR1 : 3 ≤ R.frames ∧ 120 ≤ R.locals := by rw [hR]; exact ⟨Nat.le_refl _, Nat.le_refl _⟩
    refine ⟨kd10_putCode_ok, fun index ci fi mode hq => kf10_ok X.2.2.2.2.1 (index, ci, fi, mode) (am_as_mem hq), fun index ci fs hq => (am_no hq).elim, fun x v hq => (am_no hq).elim, ?_, fun o t n f hq => (am_no hq).elim, rfl, rfl, by rw [hR]; exact Nat.le_refl _, by rw [hR]; exact Nat.le_refl _⟩
    intro pc sel n0 pre0 f0 hq
    have hz : ∀ q ∈ ki10_putCode, am_CK p l e R s m args below meth c D hn_cl (va_A (am_w ad ou ca w) s.heap.size) ou ca 3 q.1 q.2.2.1 q.2.2.2.1 q.2.2.2.2 := by
      refine am_allc (am_ck_S (n := 1) X hEs hE (km10_staysInCode hE) (hg_good (gw_mem 1354 (by decide +kernel))) rfl (List.mem_cons_of_mem _ (gw_mem 76 (by decide +kernel))) (List.mem_cons_of_mem _ (gw_mem 1352 (by decide +kernel))) (List.mem_cons_of_mem _ (gw_mem 1353 (by decide +kernel))) (by decide +kernel) ⟨Nat.le_trans (by decide) hR1.1, Nat.le_trans (by decide) hR1.2⟩ (kd10_putCode_ok (1, .invokestatic 280, 3) (List.mem_of_getElem? (i := 1) rfl))) (am_allc (am_ck_V (n := 1) X hEs hE (km10_put hE) (hg_good (gw_mem 1292 (by decide +kernel))) rfl (List.mem_cons_of_mem _ (gw_mem 76 (by decide +kernel))) (List.mem_cons_of_mem _ (gw_mem 1289 (by decide +kernel))) (List.mem_cons_of_mem _ (gw_mem 1291 (by decide +kernel))) (List.mem_cons_of_mem _ (gw_mem 49 (by decide +kernel))) pa10_put (by decide +kernel) ⟨Nat.le_trans (by decide) hR1.1, Nat.le_trans (by decide) hR1.2⟩ (kd10_putCode_ok (9, .invokevirtual 259, 3) (List.mem_of_getElem? (i := 5) rfl))) (am_allc (am_ck_V (n := 1) X hEs hE (km10_put hE) (hg_good (gw_mem 1292 (by decide +kernel))) rfl (List.mem_cons_of_mem _ (gw_mem 76 (by decide +kernel))) (List.mem_cons_of_mem _ (gw_mem 1289 (by decide +kernel))) (List.mem_cons_of_mem _ (gw_mem 1291 (by decide +kernel))) (List.mem_cons_of_mem _ (gw_mem 49 (by decide +kernel))) pa10_put (by decide +kernel) ⟨Nat.le_trans (by decide) hR1.1, Nat.le_trans (by decide) hR1.2⟩ (kd10_putCode_ok (16, .invokevirtual 259, 3) (List.mem_of_getElem? (i := 9) rfl))) (am_allc (am_ck_V (n := 1) X hEs hE (km10_put hE) (hg_good (gw_mem 1292 (by decide +kernel))) rfl (List.mem_cons_of_mem _ (gw_mem 76 (by decide +kernel))) (List.mem_cons_of_mem _ (gw_mem 1289 (by decide +kernel))) (List.mem_cons_of_mem _ (gw_mem 1291 (by decide +kernel))) (List.mem_cons_of_mem _ (gw_mem 49 (by decide +kernel))) pa10_put (by decide +kernel) ⟨Nat.le_trans (by decide) hR1.1, Nat.le_trans (by decide) hR1.2⟩ (kd10_putCode_ok (26, .invokevirtual 259, 3) (List.mem_of_getElem? (i := 14) rfl))) (am_allc (am_ck_V (n := 1) X hEs hE (km10_putHex hE) (hg_good (gw_mem 1343 (by decide +kernel))) rfl (List.mem_cons_of_mem _ (gw_mem 76 (by decide +kernel))) (List.mem_cons_of_mem _ (gw_mem 1340 (by decide +kernel))) (List.mem_cons_of_mem _ (gw_mem 1342 (by decide +kernel))) (List.mem_cons_of_mem _ (gw_mem 61 (by decide +kernel))) pa10_putHex (by decide +kernel) ⟨Nat.le_trans (by decide) hR1.1, Nat.le_trans (by decide) hR1.2⟩ (kd10_putCode_ok (31, .invokevirtual 270, 3) (List.mem_of_getElem? (i := 17) rfl))) (am_allc (am_ck_V (n := 1) X hEs hE (km10_put hE) (hg_good (gw_mem 1292 (by decide +kernel))) rfl (List.mem_cons_of_mem _ (gw_mem 76 (by decide +kernel))) (List.mem_cons_of_mem _ (gw_mem 1289 (by decide +kernel))) (List.mem_cons_of_mem _ (gw_mem 1291 (by decide +kernel))) (List.mem_cons_of_mem _ (gw_mem 49 (by decide +kernel))) pa10_put (by decide +kernel) ⟨Nat.le_trans (by decide) hR1.1, Nat.le_trans (by decide) hR1.2⟩ (kd10_putCode_ok (41, .invokevirtual 259, 3) (List.mem_of_getElem? (i := 22) rfl))) (am_all0))))))
    exact hz _ (am_as_mem hq)
noncomputable def ki10_isRule : List (Nat × Option (List Nat) × Nat × (List am_V → List am_C → Prop) × am_M) := [(50, some [], 1, pr10_isWord, fm10_isWord)]
noncomputable def kb10_isRule : am_B := (kd10_isRule, am_as kf10, hn_ty, fun _ => none, fun _ => none, am_as ki10_isRule, fun _ => none, 5, 5, (some .boolean))
noncomputable def fn10_isRule_c21 : Nat → hs → Int32 → Int32 → Int32 → Int32
  | 0, _, _, _, _ => 0
  | fu + 1, s, v1, v2, v3 => (if v2 = 0 then v2 else (if ((hm_lengths s) (v1).toNatClampNeg) ≤ v3 then v2 else (if (fn10_isWord ((hm_items s) ((((40 : Int32) * v1) + v3)).toNatClampNeg)) = 0 then (if ((hm_items s) ((((40 : Int32) * v1) + v3)).toNatClampNeg) = (45 : Int32) then (fn10_isRule_c21 fu s v1 (1 : Int32) (v3 + (1 : Int32))) else (if ((hm_items s) ((((40 : Int32) * v1) + v3)).toNatClampNeg) = (46 : Int32) then (fn10_isRule_c21 fu s v1 (1 : Int32) (v3 + (1 : Int32))) else (if ((hm_items s) ((((40 : Int32) * v1) + v3)).toNatClampNeg) = (37 : Int32) then (fn10_isRule_c21 fu s v1 (1 : Int32) (v3 + (1 : Int32))) else (if ((hm_items s) ((((40 : Int32) * v1) + v3)).toNatClampNeg) = (35 : Int32) then (fn10_isRule_c21 fu s v1 (1 : Int32) (v3 + (1 : Int32))) else (fn10_isRule_c21 fu s v1 (0 : Int32) (v3 + (1 : Int32))))))) else (fn10_isRule_c21 fu s v1 (1 : Int32) (v3 + (1 : Int32))))))
def wp10_isRule_c21 : Nat → hs → Int32 → Int32 → Int32 → Prop
  | 0, _, _, _, _ => False
  | fu + 1, s, v1, v2, v3 => ((v2 = 0 → (am_fit .boolean (.inl v2) = true)) ∧ (¬ v2 = 0 → (am_inb v1 32 = true ∧ ((((hm_lengths s) (v1).toNatClampNeg) ≤ v3 → (am_fit .boolean (.inl v2) = true)) ∧ (¬ ((hm_lengths s) (v1).toNatClampNeg) ≤ v3 → (am_inb (((40 : Int32) * v1) + v3) 1280 = true ∧ ((wp10_isWord ((hm_items s) ((((40 : Int32) * v1) + v3)).toNatClampNeg)) ∧ (((fn10_isWord ((hm_items s) ((((40 : Int32) * v1) + v3)).toNatClampNeg)) = 0 → ((((hm_items s) ((((40 : Int32) * v1) + v3)).toNatClampNeg) = (45 : Int32) → (wp10_isRule_c21 fu s v1 (1 : Int32) (v3 + (1 : Int32)))) ∧ (¬ ((hm_items s) ((((40 : Int32) * v1) + v3)).toNatClampNeg) = (45 : Int32) → ((((hm_items s) ((((40 : Int32) * v1) + v3)).toNatClampNeg) = (46 : Int32) → (wp10_isRule_c21 fu s v1 (1 : Int32) (v3 + (1 : Int32)))) ∧ (¬ ((hm_items s) ((((40 : Int32) * v1) + v3)).toNatClampNeg) = (46 : Int32) → ((((hm_items s) ((((40 : Int32) * v1) + v3)).toNatClampNeg) = (37 : Int32) → (wp10_isRule_c21 fu s v1 (1 : Int32) (v3 + (1 : Int32)))) ∧ (¬ ((hm_items s) ((((40 : Int32) * v1) + v3)).toNatClampNeg) = (37 : Int32) → ((((hm_items s) ((((40 : Int32) * v1) + v3)).toNatClampNeg) = (35 : Int32) → (wp10_isRule_c21 fu s v1 (1 : Int32) (v3 + (1 : Int32)))) ∧ (¬ ((hm_items s) ((((40 : Int32) * v1) + v3)).toNatClampNeg) = (35 : Int32) → (wp10_isRule_c21 fu s v1 (0 : Int32) (v3 + (1 : Int32)))))))))))) ∧ (¬ (fn10_isWord ((hm_items s) ((((40 : Int32) * v1) + v3)).toNatClampNeg)) = 0 → (wp10_isRule_c21 fu s v1 (1 : Int32) (v3 + (1 : Int32))))))))))))
set_option maxRecDepth 100000 in
set_option maxHeartbeats 4000000 in
theorem rc10_isRule_21 : ∀ (fu : Nat) (s : hs) (v1 : Int32) (v2 : Int32) (v3 : Int32) (j4 : Option am_V) (g4 : am_loO 22 j4 = true) , wp10_isRule_c21 fu s v1 v2 v3 → am_lf (am_mk kb10_isRule 0 0 22) [17, 18, 21] (21, [some (.inr (.inl 0)), some (.inl v1), some (.inl v2), some (.inl v3), j4], [], (hm_w s), 0, 0) = some (some (.inl (fn10_isRule_c21 fu s v1 v2 v3)), (hm_w s)) := by
  intro fu
  induction fu with
  | zero =>
    intro s v1 v2 v3 j4 g4 hp
    exact hp.elim
  | succ fu ih =>
    intro s v1 v2 v3 j4 g4 hp
    unfold wp10_isRule_c21 at hp
    refine am_lf_eq ?_
    generalize am_lf (am_mk kb10_isRule 0 0 22) [17, 18, 21] = kt at ih ⊢
    refine am_if (c := v2 = 0) (fun h2 => ?_) (fun h2 => ?_)
    · have q2 := hp.1 h2
      refine am_ci (c := am_fit .boolean (.inl v2) = true) q2 ?_
      have e : fn10_isRule_c21 (fu + 1) s v1 v2 v3 = v2 := by
        rw [fn10_isRule_c21]
        rw [if_pos h2]
      rw [e] <;> rfl
    · have q2 := hp.2 h2
      refine am_ci (c := am_inb v1 32 = true) q2.1 ?_
      refine am_if (c := ((hm_lengths s) (v1).toNatClampNeg) ≤ v3) (fun h3 => ?_) (fun h3 => ?_)
      · have q3 := q2.2.1 h3
        refine am_ci (c := am_fit .boolean (.inl v2) = true) q3 ?_
        have e : fn10_isRule_c21 (fu + 1) s v1 v2 v3 = v2 := by
          rw [fn10_isRule_c21]
          rw [if_neg h2, if_pos h3]
        rw [e] <;> rfl
      · have q3 := q2.2.2 h3
        refine am_ci (c := am_inb (((40 : Int32) * v1) + v3) 1280 = true) q3.1 ?_
        refine am_cy (pre := pr10_isWord) (f := fm10_isWord) (a' := [.inl ((hm_items s) ((((40 : Int32) * v1) + v3)).toNatClampNeg)]) (wc := []) (w' := (hm_w s)) (r := (some (.inl (fn10_isWord ((hm_items s) ((((40 : Int32) * v1) + v3)).toNatClampNeg))), [], 0, 0)) ?_ ?_ ?_ ?_ ?_ ?_ ?_ ?_ ?_ ?_
        · exact am_sow0 _
        · rfl
        · rfl
        · exact am_sub0 _
        · exact ⟨((hm_items s) ((((40 : Int32) * v1) + v3)).toNatClampNeg), rfl, rfl, q3.2.1⟩
        · exact fe10_isWord ((hm_items s) ((((40 : Int32) * v1) + v3)).toNatClampNeg)
        · exact rfl
        · rfl
        · exact am_mix0 _
        refine am_if (c := (fn10_isWord ((hm_items s) ((((40 : Int32) * v1) + v3)).toNatClampNeg)) = 0) (fun h4 => ?_) (fun h4 => ?_)
        · have q4 := q3.2.2.1 h4
          refine am_if (c := ((hm_items s) ((((40 : Int32) * v1) + v3)).toNatClampNeg) = (45 : Int32)) (fun h5 => ?_) (fun h5 => ?_)
          · have q5 := q4.1 h5
            have e : fn10_isRule_c21 (fu + 1) s v1 v2 v3 = fn10_isRule_c21 fu s v1 (1 : Int32) (v3 + (1 : Int32)) := by
              rw [fn10_isRule_c21]
              rw [if_neg h2, if_neg h3, if_pos h4, if_pos h5]
            rw [e]
            exact ih s v1 (1 : Int32) (v3 + (1 : Int32)) _ rfl q5
          · have q5 := q4.2 h5
            refine am_if (c := ((hm_items s) ((((40 : Int32) * v1) + v3)).toNatClampNeg) = (46 : Int32)) (fun h6 => ?_) (fun h6 => ?_)
            · have q6 := q5.1 h6
              have e : fn10_isRule_c21 (fu + 1) s v1 v2 v3 = fn10_isRule_c21 fu s v1 (1 : Int32) (v3 + (1 : Int32)) := by
                rw [fn10_isRule_c21]
                rw [if_neg h2, if_neg h3, if_pos h4, if_neg h5, if_pos h6]
              rw [e]
              exact ih s v1 (1 : Int32) (v3 + (1 : Int32)) _ rfl q6
            · have q6 := q5.2 h6
              refine am_if (c := ((hm_items s) ((((40 : Int32) * v1) + v3)).toNatClampNeg) = (37 : Int32)) (fun h7 => ?_) (fun h7 => ?_)
              · have q7 := q6.1 h7
                have e : fn10_isRule_c21 (fu + 1) s v1 v2 v3 = fn10_isRule_c21 fu s v1 (1 : Int32) (v3 + (1 : Int32)) := by
                  rw [fn10_isRule_c21]
                  rw [if_neg h2, if_neg h3, if_pos h4, if_neg h5, if_neg h6, if_pos h7]
                rw [e]
                exact ih s v1 (1 : Int32) (v3 + (1 : Int32)) _ rfl q7
              · have q7 := q6.2 h7
                refine am_if (c := ((hm_items s) ((((40 : Int32) * v1) + v3)).toNatClampNeg) = (35 : Int32)) (fun h8 => ?_) (fun h8 => ?_)
                · have q8 := q7.1 h8
                  have e : fn10_isRule_c21 (fu + 1) s v1 v2 v3 = fn10_isRule_c21 fu s v1 (1 : Int32) (v3 + (1 : Int32)) := by
                    rw [fn10_isRule_c21]
                    rw [if_neg h2, if_neg h3, if_pos h4, if_neg h5, if_neg h6, if_neg h7, if_pos h8]
                  rw [e]
                  exact ih s v1 (1 : Int32) (v3 + (1 : Int32)) _ rfl q8
                · have q8 := q7.2 h8
                  have e : fn10_isRule_c21 (fu + 1) s v1 v2 v3 = fn10_isRule_c21 fu s v1 (0 : Int32) (v3 + (1 : Int32)) := by
                    rw [fn10_isRule_c21]
                    rw [if_neg h2, if_neg h3, if_pos h4, if_neg h5, if_neg h6, if_neg h7, if_neg h8]
                  rw [e]
                  exact ih s v1 (0 : Int32) (v3 + (1 : Int32)) _ rfl q8
        · have q4 := q3.2.2.2 h4
          have e : fn10_isRule_c21 (fu + 1) s v1 v2 v3 = fn10_isRule_c21 fu s v1 (1 : Int32) (v3 + (1 : Int32)) := by
            rw [fn10_isRule_c21]
            rw [if_neg h2, if_neg h3, if_neg h4]
          rw [e]
          exact ih s v1 (1 : Int32) (v3 + (1 : Int32)) _ rfl q4
noncomputable def fn10_isRule_c18 (s : hs) (v1 : Int32) (u0 : Int32) : Int32 := (fn10_isRule_c21 hg_fu s v1 u0 (0 : Int32))
def wp10_isRule_c18 (s : hs) (v1 : Int32) (u0 : Int32) : Prop := (wp10_isRule_c21 hg_fu s v1 u0 (0 : Int32))
set_option maxRecDepth 100000 in
set_option maxHeartbeats 4000000 in
theorem rc10_isRule_18 (s : hs) (v1 : Int32) (u0 : Int32) (j2 : Option am_V) (j3 : Option am_V) (j4 : Option am_V) (g2 : am_loO 22 j2 = true) (g3 : am_loO 22 j3 = true) (g4 : am_loO 22 j4 = true) (hp : wp10_isRule_c18 s v1 u0) : am_lf (am_mk kb10_isRule 0 0 22) [17, 18, 21] (18, [some (.inr (.inl 0)), some (.inl v1), j2, j3, j4], [.inl u0], (hm_w s), 0, 0) = some (some (.inl (fn10_isRule_c18 s v1 u0)), (hm_w s)) := by
  unfold wp10_isRule_c18 at hp
  have i21 := @rc10_isRule_21
  refine am_lf_eq ?_
  generalize am_lf (am_mk kb10_isRule 0 0 22) [17, 18, 21] = kt at i21 ⊢
  have e : fn10_isRule_c18 s v1 u0 = fn10_isRule_c21 hg_fu s v1 u0 (0 : Int32) := by
    rw [fn10_isRule_c18]
  rw [e]
  exact i21 hg_fu s v1 u0 (0 : Int32) _ g4 hp
noncomputable def fn10_isRule_c17 (s : hs) (v1 : Int32) : Int32 := (fn10_isRule_c18 s v1 (0 : Int32))
def wp10_isRule_c17 (s : hs) (v1 : Int32) : Prop := (wp10_isRule_c18 s v1 (0 : Int32))
set_option maxRecDepth 100000 in
set_option maxHeartbeats 4000000 in
theorem rc10_isRule_17 (s : hs) (v1 : Int32) (j2 : Option am_V) (j3 : Option am_V) (j4 : Option am_V) (g2 : am_loO 22 j2 = true) (g3 : am_loO 22 j3 = true) (g4 : am_loO 22 j4 = true) (hp : wp10_isRule_c17 s v1) : am_lf (am_mk kb10_isRule 0 0 22) [17, 18, 21] (17, [some (.inr (.inl 0)), some (.inl v1), j2, j3, j4], [], (hm_w s), 0, 0) = some (some (.inl (fn10_isRule_c17 s v1)), (hm_w s)) := by
  unfold wp10_isRule_c17 at hp
  have i18 := @rc10_isRule_18
  refine am_lf_eq ?_
  generalize am_lf (am_mk kb10_isRule 0 0 22) [17, 18, 21] = kt at i18 ⊢
  have e : fn10_isRule_c17 s v1 = fn10_isRule_c18 s v1 (0 : Int32) := by
    rw [fn10_isRule_c17]
  rw [e]
  exact i18 s v1 (0 : Int32) _ _ _ g2 g3 g4 hp
noncomputable def fn10_isRule (s : hs) (p0 : Int32) : Int32 := Classical.choose (⟨_, rfl⟩ : ∃ z : Int32, z = (if p0 < 0 then (fn10_isRule_c17 s p0) else (if ((hm_lengths s) (p0).toNatClampNeg) ≤ 0 then (fn10_isRule_c17 s p0) else (fn10_isRule_c18 s p0 (1 : Int32)))))
theorem fq10_isRule (s : hs) (p0 : Int32) : fn10_isRule s p0 = (if p0 < 0 then (fn10_isRule_c17 s p0) else (if ((hm_lengths s) (p0).toNatClampNeg) ≤ 0 then (fn10_isRule_c17 s p0) else (fn10_isRule_c18 s p0 (1 : Int32)))) := Classical.choose_spec (⟨_, rfl⟩ : ∃ z : Int32, z = (if p0 < 0 then (fn10_isRule_c17 s p0) else (if ((hm_lengths s) (p0).toNatClampNeg) ≤ 0 then (fn10_isRule_c17 s p0) else (fn10_isRule_c18 s p0 (1 : Int32)))))
def wp10_isRule (s : hs) (p0 : Int32) : Prop := ((p0 < 0 → (wp10_isRule_c17 s p0)) ∧ (¬ p0 < 0 → (am_inb p0 32 = true ∧ ((((hm_lengths s) (p0).toNatClampNeg) ≤ 0 → (wp10_isRule_c17 s p0)) ∧ (¬ ((hm_lengths s) (p0).toNatClampNeg) ≤ 0 → (wp10_isRule_c18 s p0 (1 : Int32)))))))
set_option maxRecDepth 100000 in
set_option maxHeartbeats 4000000 in
theorem re10_isRule (s : hs) (p0 : Int32) (hp : wp10_isRule s p0) : am_lf (am_mk kb10_isRule 0 0 22) [17, 18, 21] (0, am_L0 [.inr (.inl 0), .inl p0] 5, [], (hm_w s), 0, 0) = some (some (.inl (fn10_isRule s p0)), (hm_w s)) := by
  unfold wp10_isRule at hp
  have i17 := @rc10_isRule_17
  have i18 := @rc10_isRule_18
  refine am_lf_eq ?_
  generalize am_lf (am_mk kb10_isRule 0 0 22) [17, 18, 21] = kt at i17 i18 ⊢
  refine am_if (c := p0 < 0) (fun h1 => ?_) (fun h1 => ?_)
  · have q1 := hp.1 h1
    have e : fn10_isRule s p0 = fn10_isRule_c17 s p0 := by
      rw [fq10_isRule]
      rw [if_pos h1]
    rw [e]
    exact i17 s p0 _ _ _ rfl rfl rfl q1
  · have q1 := hp.2 h1
    refine am_ci (c := am_inb p0 32 = true) q1.1 ?_
    refine am_if (c := ((hm_lengths s) (p0).toNatClampNeg) ≤ 0) (fun h2 => ?_) (fun h2 => ?_)
    · have q2 := q1.2.1 h2
      have e : fn10_isRule s p0 = fn10_isRule_c17 s p0 := by
        rw [fq10_isRule]
        rw [if_neg h1, if_pos h2]
      rw [e]
      exact i17 s p0 _ _ _ rfl rfl rfl q2
    · have q2 := q1.2.2 h2
      have e : fn10_isRule s p0 = fn10_isRule_c18 s p0 (1 : Int32) := by
        rw [fq10_isRule]
        rw [if_neg h1, if_neg h2]
      rw [e]
      exact i18 s p0 (1 : Int32) _ _ _ rfl rfl rfl q2
abbrev pr10_isRule : List am_V → List am_C → Prop := fun a w => ∃ (s : hs) (p0 : Int32), a = [.inr (.inl 0), .inl p0] ∧ w = (hm_w s) ∧ wp10_isRule s p0
noncomputable def fm10_isRule : am_M := fun a w => (fun (z : Int32) => (some (.inl z), (hm_w (hm_st w 0)), 0, 0)) (fn10_isRule (hm_st w 0) (am_i (am_an a 1)))
theorem fe10_isRule (s : hs) (p0 : Int32) : fm10_isRule [.inr (.inl 0), .inl p0] (hm_w s) = (some (.inl (fn10_isRule s p0)), (hm_w s), 0, 0) := rfl
set_option maxRecDepth 100000 in
set_option maxHeartbeats 4000000 in
theorem rn10_isRule : ∀ (a : List am_V) (w : List am_C), pr10_isRule a w → ∃ nq, am_ev (am_mk kb10_isRule (fm10_isRule a w).2.2.1 (fm10_isRule a w).2.2.2 w.length) [17, 18, 21] nq (0, am_L0 a 5, [], w, 0, 0) = some ((fm10_isRule a w).1, (fm10_isRule a w).2.1) := by
  rintro a w ⟨s, p0, rfl, rfl, hp⟩
  rw [fe10_isRule s p0]
  exact am_lf_ev (re10_isRule s p0 hp)
theorem rl10_isRule : ∀ (a : List am_V) (w : List am_C), pr10_isRule a w → a.length ≤ 5 := by
  rintro a w ⟨s, p0, rfl, rfl, hp⟩
  exact Nat.le_of_ble_eq_true rfl
theorem pa10_isRule : ∀ a w, pr10_isRule a w → ∃ q a' ci fs r, a = .inr (.inl q) :: a' ∧ w[q]? = some (.inr (ci, fs)) ∧ hn_cl[ci]? = some r ∧ r.1 = hn_R10 := by
  rintro a w ⟨s, p0, rfl, rfl, hp⟩
  exact ⟨0, _, 10, _, _, rfl, rfl, rfl, rfl⟩
set_option maxRecDepth 100000 in
set_option maxHeartbeats 4000000 in
theorem km10_isRule {l : Launch} {E : (Nat → Prop) → State → Prop} {D : va_G} {ou : Nat → Nat} {ca : Nat → ClassId} (hE : am_EC E) : hg_Met l E D ou ca hy10_isRule prog_12_method_66_code 5 (some .boolean) 2 pr10_isRule fm10_isRule := by
  refine am_met (B := kb10_isRule) (cuts := [17, 18, 21]) (nt := 5) (by decide +kernel) rfl rfl (hg_tys_ok ca) ?_ (by decide) rl10_isRule ?_ rn10_isRule
  · exact fun t ht => List.mem_cons_of_mem _ (hg_arr t ht)
  · intro a w hp ad p e R s m args below meth c hR X hEs hnm
    have hR1 : 2 ≤ R.frames ∧ 80 ≤ R.locals := by rw [hR]; exact ⟨Nat.le_refl _, Nat.le_refl _⟩
    refine ⟨kd10_isRule_ok, fun index ci fi mode hq => kf10_ok X.2.2.2.2.1 (index, ci, fi, mode) (am_as_mem hq), fun index ci fs hq => (am_no hq).elim, fun x v hq => (am_no hq).elim, ?_, fun o t n f hq => (am_no hq).elim, rfl, rfl, by rw [hR]; exact Nat.le_refl _, by rw [hR]; exact Nat.le_refl _⟩
    intro pc sel n0 pre0 f0 hq
    have hz : ∀ q ∈ ki10_isRule, am_CK p l e R s m args below meth c D hn_cl (va_A (am_w ad ou ca w) s.heap.size) ou ca 5 q.1 q.2.2.1 q.2.2.2.1 q.2.2.2.2 := by
      refine am_allc (am_ck_S (n := 1) X hEs hE (km10_isWord hE) (hg_good (gw_mem 1154 (by decide +kernel))) rfl (List.mem_cons_of_mem _ (gw_mem 76 (by decide +kernel))) (List.mem_cons_of_mem _ (gw_mem 1152 (by decide +kernel))) (List.mem_cons_of_mem _ (gw_mem 1153 (by decide +kernel))) (by decide +kernel) ⟨Nat.le_trans (by decide) hR1.1, Nat.le_trans (by decide) hR1.2⟩ (kd10_isRule_ok (50, .invokestatic 140, 3) (List.mem_of_getElem? (i := 31) rfl))) (am_all0)
    exact hz _ (am_as_mem hq)
noncomputable def ki10_putQuote : List (Nat × Option (List Nat) × Nat × (List am_V → List am_C → Prop) × am_M) := [(9, none, 2, pr10_putPlain, fm10_putPlain), (24, none, 2, pr10_put, fm10_put)]
noncomputable def kb10_putQuote : am_B := (kd10_putQuote, am_as kf10, hn_ty, fun _ => none, fun _ => none, am_as ki10_putQuote, fun _ => none, 5, 2, none)
noncomputable def fn10_putQuote (s : hs) (p0 : Int32) : hs := Classical.choose (⟨_, rfl⟩ : ∃ z : hs, z = (if p0 = (24 : Int32) then (fn10_putPlain s (34 : Int32)) else (if p0 = (8 : Int32) then (fn10_put s (34 : Int32)) else s)))
theorem fq10_putQuote (s : hs) (p0 : Int32) : fn10_putQuote s p0 = (if p0 = (24 : Int32) then (fn10_putPlain s (34 : Int32)) else (if p0 = (8 : Int32) then (fn10_put s (34 : Int32)) else s)) := Classical.choose_spec (⟨_, rfl⟩ : ∃ z : hs, z = (if p0 = (24 : Int32) then (fn10_putPlain s (34 : Int32)) else (if p0 = (8 : Int32) then (fn10_put s (34 : Int32)) else s)))
def wp10_putQuote (s : hs) (p0 : Int32) : Prop := ((p0 = (24 : Int32) → (wp10_putPlain s (34 : Int32))) ∧ (¬ p0 = (24 : Int32) → ((p0 = (8 : Int32) → (wp10_put s (34 : Int32))) ∧ (¬ p0 = (8 : Int32) → True))))
set_option maxRecDepth 100000 in
set_option maxHeartbeats 4000000 in
theorem re10_putQuote (s : hs) (p0 : Int32) (hp : wp10_putQuote s p0) : am_lf (am_mk kb10_putQuote 0 0 22) [] (0, am_L0 [.inr (.inl 0), .inl p0] 2, [], (hm_w s), 0, 0) = some (none, (hm_w (fn10_putQuote s p0))) := by
  unfold wp10_putQuote at hp
  refine am_lf_eq ?_
  generalize am_lf (am_mk kb10_putQuote 0 0 22) [] = kt
  refine am_if (c := p0 = (24 : Int32)) (fun h1 => ?_) (fun h1 => ?_)
  · have q1 := hp.1 h1
    refine am_cx (pre := pr10_putPlain) (f := fm10_putPlain) (r := (none, (hm_w (fn10_putPlain s (34 : Int32))), 0, 0)) ?_ ?_ ?_ ?_
    · exact ⟨s, (34 : Int32), rfl, rfl, q1⟩
    · exact fe10_putPlain s (34 : Int32)
    · exact rfl
    have e : fn10_putQuote s p0 = (fn10_putPlain s (34 : Int32)) := by
      rw [fq10_putQuote]
      rw [if_pos h1]
    rw [e] <;> rfl
  · have q1 := hp.2 h1
    refine am_if (c := p0 = (8 : Int32)) (fun h2 => ?_) (fun h2 => ?_)
    · have q2 := q1.1 h2
      refine am_cx (pre := pr10_put) (f := fm10_put) (r := (none, (hm_w (fn10_put s (34 : Int32))), 0, 0)) ?_ ?_ ?_ ?_
      · exact ⟨s, (34 : Int32), rfl, rfl, q2⟩
      · exact fe10_put s (34 : Int32)
      · exact rfl
      have e : fn10_putQuote s p0 = (fn10_put s (34 : Int32)) := by
        rw [fq10_putQuote]
        rw [if_neg h1, if_pos h2]
      rw [e] <;> rfl
    · have e : fn10_putQuote s p0 = s := by
        rw [fq10_putQuote]
        rw [if_neg h1, if_neg h2]
      rw [e] <;> rfl
abbrev pr10_putQuote : List am_V → List am_C → Prop := fun a w => ∃ (s : hs) (p0 : Int32), a = [.inr (.inl 0), .inl p0] ∧ w = (hm_w s) ∧ wp10_putQuote s p0
noncomputable def fm10_putQuote : am_M := fun a w => (fun (z : hs) => (none, (hm_w z), 0, 0)) (fn10_putQuote (hm_st w 0) (am_i (am_an a 1)))
theorem fe10_putQuote (s : hs) (p0 : Int32) : fm10_putQuote [.inr (.inl 0), .inl p0] (hm_w s) = (none, (hm_w (fn10_putQuote s p0)), 0, 0) := rfl
set_option maxRecDepth 100000 in
set_option maxHeartbeats 4000000 in
theorem rn10_putQuote : ∀ (a : List am_V) (w : List am_C), pr10_putQuote a w → ∃ nq, am_ev (am_mk kb10_putQuote (fm10_putQuote a w).2.2.1 (fm10_putQuote a w).2.2.2 w.length) [] nq (0, am_L0 a 2, [], w, 0, 0) = some ((fm10_putQuote a w).1, (fm10_putQuote a w).2.1) := by
  rintro a w ⟨s, p0, rfl, rfl, hp⟩
  rw [fe10_putQuote s p0]
  exact am_lf_ev (re10_putQuote s p0 hp)
theorem rl10_putQuote : ∀ (a : List am_V) (w : List am_C), pr10_putQuote a w → a.length ≤ 2 := by
  rintro a w ⟨s, p0, rfl, rfl, hp⟩
  exact Nat.le_of_ble_eq_true rfl
theorem pa10_putQuote : ∀ a w, pr10_putQuote a w → ∃ q a' ci fs r, a = .inr (.inl q) :: a' ∧ w[q]? = some (.inr (ci, fs)) ∧ hn_cl[ci]? = some r ∧ r.1 = hn_R10 := by
  rintro a w ⟨s, p0, rfl, rfl, hp⟩
  exact ⟨0, _, 10, _, _, rfl, rfl, rfl, rfl⟩
set_option maxRecDepth 100000 in
set_option maxHeartbeats 4000000 in
theorem km10_putQuote {l : Launch} {E : (Nat → Prop) → State → Prop} {D : va_G} {ou : Nat → Nat} {ca : Nat → ClassId} (hE : am_EC E) : hg_Met l E D ou ca hy10_putQuote prog_12_method_67_code 2 none 3 pr10_putQuote fm10_putQuote := by
  refine am_met (B := kb10_putQuote) (cuts := []) (nt := 5) (by decide +kernel) rfl rfl (hg_tys_ok ca) ?_ (by decide) rl10_putQuote ?_ rn10_putQuote
  · exact fun t ht => List.mem_cons_of_mem _ (hg_arr t ht)
  · intro a w hp ad p e R s m args below meth c hR X hEs hnm
    have hR1 : 3 ≤ R.frames ∧ 120 ≤ R.locals := by rw [hR]; exact ⟨Nat.le_refl _, Nat.le_refl _⟩
    refine ⟨kd10_putQuote_ok, fun index ci fi mode hq => kf10_ok X.2.2.2.2.1 (index, ci, fi, mode) (am_as_mem hq), fun index ci fs hq => (am_no hq).elim, fun x v hq => (am_no hq).elim, ?_, fun o t n f hq => (am_no hq).elim, rfl, rfl, by rw [hR]; exact Nat.le_refl _, by rw [hR]; exact Nat.le_refl _⟩
    intro pc sel n0 pre0 f0 hq
    have hz : ∀ q ∈ ki10_putQuote, am_CK p l e R s m args below meth c D hn_cl (va_A (am_w ad ou ca w) s.heap.size) ou ca 2 q.1 q.2.2.1 q.2.2.2.1 q.2.2.2.2 := by
      refine am_allc (am_ck_V (n := 1) X hEs hE (km10_putPlain hE) (hg_good (gw_mem 1332 (by decide +kernel))) rfl (List.mem_cons_of_mem _ (gw_mem 76 (by decide +kernel))) (List.mem_cons_of_mem _ (gw_mem 1329 (by decide +kernel))) (List.mem_cons_of_mem _ (gw_mem 1331 (by decide +kernel))) (List.mem_cons_of_mem _ (gw_mem 59 (by decide +kernel))) pa10_putPlain (by decide +kernel) ⟨Nat.le_trans (by decide) hR1.1, Nat.le_trans (by decide) hR1.2⟩ (kd10_putQuote_ok (9, .invokevirtual 283, 3) (List.mem_of_getElem? (i := 5) rfl))) (am_allc (am_ck_V (n := 1) X hEs hE (km10_put hE) (hg_good (gw_mem 1292 (by decide +kernel))) rfl (List.mem_cons_of_mem _ (gw_mem 76 (by decide +kernel))) (List.mem_cons_of_mem _ (gw_mem 1289 (by decide +kernel))) (List.mem_cons_of_mem _ (gw_mem 1291 (by decide +kernel))) (List.mem_cons_of_mem _ (gw_mem 49 (by decide +kernel))) pa10_put (by decide +kernel) ⟨Nat.le_trans (by decide) hR1.1, Nat.le_trans (by decide) hR1.2⟩ (kd10_putQuote_ok (24, .invokevirtual 259, 3) (List.mem_of_getElem? (i := 12) rfl))) (am_all0))
    exact hz _ (am_as_mem hq)
