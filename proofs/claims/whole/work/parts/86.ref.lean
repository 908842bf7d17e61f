noncomputable def ki10_valuePiece : List (Nat × Option (List Nat) × Nat × (List am_V → List am_C → Prop) × am_M) := [(2, none, 2, pr10_ch, fm10_ch), (38, none, 2, pr10_go, fm10_go), (63, none, 2, pr10_isAmpersand, fm10_isAmpersand), (85, none, 2, pr10_urlPiece, fm10_urlPiece), (114, none, 3, pr10_codePiece, fm10_codePiece)]
noncomputable def kb10_valuePiece : am_B := (kd10_valuePiece, am_as kf10, hn_ty, fun _ => none, fun _ => none, am_as ki10_valuePiece, fun _ => none, 5, 4, (some .int))
noncomputable def fn10_valuePiece_c31 (s : hs) : Int32 × hs := ((1 : Int32), (hu_element (fn10_go s (1 : Int32)) (hm_element s)))
def wp10_valuePiece_c31 (s : hs) : Prop := (wp10_go s (1 : Int32))
set_option maxRecDepth 100000 in
set_option maxHeartbeats 4000000 in
theorem rc10_valuePiece_31 (s : hs) (j1 : Option am_V) (j2 : Option am_V) (j3 : Option am_V) (g1 : am_loO 22 j1 = true) (g2 : am_loO 22 j2 = true) (g3 : am_loO 22 j3 = true) (hp : wp10_valuePiece_c31 s) : am_lf (am_mk kb10_valuePiece 0 0 22) [31, 69, 114] (31, [some (.inr (.inl 0)), j1, j2, j3], [], (hm_w s), 0, 0) = some (some (.inl ((fn10_valuePiece_c31 s).1)), (hm_w ((fn10_valuePiece_c31 s).2))) := by
  unfold wp10_valuePiece_c31 at hp
  refine am_lf_eq ?_
  generalize am_lf (am_mk kb10_valuePiece 0 0 22) [31, 69, 114] = kt
  refine am_cx (pre := pr10_go) (f := fm10_go) (r := (none, (hm_w (fn10_go s (1 : Int32))), 0, 0)) ?_ ?_ ?_ ?_
  · exact ⟨s, (1 : Int32), rfl, rfl, hp⟩
  · exact fe10_go s (1 : Int32)
  · exact (am_ac rfl (am_ac g1 (am_ac g2 (am_ac rfl am_a0))))
  refine am_sp (w' := (hm_w (hu_element (fn10_go s (1 : Int32)) (hm_element s)))) (kp_R_0_element (fn10_go s (1 : Int32)) (hm_element s)) ?_
  have e : fn10_valuePiece_c31 s = ((1 : Int32), (hu_element (fn10_go s (1 : Int32)) (hm_element s))) := by
    rw [fn10_valuePiece_c31]
  rw [e] <;> rfl
noncomputable def fn10_valuePiece_c69 (s : hs) : Int32 × hs := ((1 : Int32), s)
def wp10_valuePiece_c69 (s : hs) : Prop := True
set_option maxRecDepth 100000 in
set_option maxHeartbeats 4000000 in
theorem rc10_valuePiece_69 (s : hs) (j1 : Option am_V) (j2 : Option am_V) (j3 : Option am_V) (g1 : am_loO 22 j1 = true) (g2 : am_loO 22 j2 = true) (g3 : am_loO 22 j3 = true) (hp : wp10_valuePiece_c69 s) : am_lf (am_mk kb10_valuePiece 0 0 22) [31, 69, 114] (69, [some (.inr (.inl 0)), j1, j2, j3], [], (hm_w s), 0, 0) = some (some (.inl ((fn10_valuePiece_c69 s).1)), (hm_w ((fn10_valuePiece_c69 s).2))) := by
  unfold wp10_valuePiece_c69 at hp
  refine am_lf_eq ?_
  generalize am_lf (am_mk kb10_valuePiece 0 0 22) [31, 69, 114] = kt
  have e : fn10_valuePiece_c69 s = ((1 : Int32), s) := by
    rw [fn10_valuePiece_c69]
  rw [e] <;> rfl
noncomputable def fn10_valuePiece_c114 (s : hs) (u0 : Int32) (u1 : Int32) : Int32 × hs := ((fn10_codePiece s u1 u0).1, (fn10_codePiece s u1 u0).2)
def wp10_valuePiece_c114 (s : hs) (u0 : Int32) (u1 : Int32) : Prop := (wp10_codePiece s u1 u0)
set_option maxRecDepth 100000 in
set_option maxHeartbeats 4000000 in
theorem rc10_valuePiece_114 (s : hs) (u0 : Int32) (u1 : Int32) (j1 : Option am_V) (j2 : Option am_V) (j3 : Option am_V) (g1 : am_loO 22 j1 = true) (g2 : am_loO 22 j2 = true) (g3 : am_loO 22 j3 = true) (hp : wp10_valuePiece_c114 s u0 u1) : am_lf (am_mk kb10_valuePiece 0 0 22) [31, 69, 114] (114, [some (.inr (.inl 0)), j1, j2, j3], [.inl u0, .inl u1, .inr (.inl 0)], (hm_w s), 0, 0) = some (some (.inl ((fn10_valuePiece_c114 s u0 u1).1)), (hm_w ((fn10_valuePiece_c114 s u0 u1).2))) := by
  unfold wp10_valuePiece_c114 at hp
  refine am_lf_eq ?_
  generalize am_lf (am_mk kb10_valuePiece 0 0 22) [31, 69, 114] = kt
  refine am_cx (pre := pr10_codePiece) (f := fm10_codePiece) (r := (some (.inl ((fn10_codePiece s u1 u0).1)), (hm_w ((fn10_codePiece s u1 u0).2)), 0, 0)) ?_ ?_ ?_ ?_
  · exact ⟨s, u1, u0, rfl, rfl, hp⟩
  · exact fe10_codePiece s u1 u0
  · exact (am_ac rfl (am_ac g1 (am_ac g2 (am_ac g3 am_a0))))
  have e : fn10_valuePiece_c114 s u0 u1 = ((fn10_codePiece s u1 u0).1, (fn10_codePiece s u1 u0).2) := by
    rw [fn10_valuePiece_c114]
  rw [e] <;> rfl
noncomputable def fn10_valuePiece (s : hs) (p0 : Int32) : Int32 × hs := Classical.choose (⟨_, rfl⟩ : ∃ z : Int32 × hs, z = (if (fn10_ch s p0) = (hm_quote s) then (if (hm_part s) = 0 then (fn10_valuePiece_c31 s) else (if (hm_kind s) = (1 : Int32) then (fn10_valuePiece_c31 s) else ((0 : Int32), s))) else (if (hm_kind s) = 0 then (if (fn10_ch s p0) = (38 : Int32) then (if (fn10_isAmpersand s p0) = 0 then ((0 : Int32), s) else (fn10_valuePiece_c69 s)) else (fn10_valuePiece_c69 s)) else (if (hm_kind s) = (1 : Int32) then ((fn10_urlPiece s p0).1, (fn10_urlPiece s p0).2) else (if (fn10_ch s p0) = (38 : Int32) then ((0 : Int32), s) else (if (hm_kind s) = (3 : Int32) then (fn10_valuePiece_c114 s (1 : Int32) p0) else (fn10_valuePiece_c114 s (0 : Int32) p0)))))))
theorem fq10_valuePiece (s : hs) (p0 : Int32) : fn10_valuePiece s p0 = (if (fn10_ch s p0) = (hm_quote s) then (if (hm_part s) = 0 then (fn10_valuePiece_c31 s) else (if (hm_kind s) = (1 : Int32) then (fn10_valuePiece_c31 s) else ((0 : Int32), s))) else (if (hm_kind s) = 0 then (if (fn10_ch s p0) = (38 : Int32) then (if (fn10_isAmpersand s p0) = 0 then ((0 : Int32), s) else (fn10_valuePiece_c69 s)) else (fn10_valuePiece_c69 s)) else (if (hm_kind s) = (1 : Int32) then ((fn10_urlPiece s p0).1, (fn10_urlPiece s p0).2) else (if (fn10_ch s p0) = (38 : Int32) then ((0 : Int32), s) else (if (hm_kind s) = (3 : Int32) then (fn10_valuePiece_c114 s (1 : Int32) p0) else (fn10_valuePiece_c114 s (0 : Int32) p0)))))) := Classical.choose_spec (⟨_, rfl⟩ : ∃ z : Int32 × hs, z = (if (fn10_ch s p0) = (hm_quote s) then (if (hm_part s) = 0 then (fn10_valuePiece_c31 s) else (if (hm_kind s) = (1 : Int32) then (fn10_valuePiece_c31 s) else ((0 : Int32), s))) else (if (hm_kind s) = 0 then (if (fn10_ch s p0) = (38 : Int32) then (if (fn10_isAmpersand s p0) = 0 then ((0 : Int32), s) else (fn10_valuePiece_c69 s)) else (fn10_valuePiece_c69 s)) else (if (hm_kind s) = (1 : Int32) then ((fn10_urlPiece s p0).1, (fn10_urlPiece s p0).2) else (if (fn10_ch s p0) = (38 : Int32) then ((0 : Int32), s) else (if (hm_kind s) = (3 : Int32) then (fn10_valuePiece_c114 s (1 : Int32) p0) else (fn10_valuePiece_c114 s (0 : Int32) p0)))))))
def wp10_valuePiece (s : hs) (p0 : Int32) : Prop := ((wp10_ch s p0) ∧ (((fn10_ch s p0) = (hm_quote s) → (((hm_part s) = 0 → (wp10_valuePiece_c31 s)) ∧ (¬ (hm_part s) = 0 → (((hm_kind s) = (1 : Int32) → (wp10_valuePiece_c31 s)) ∧ (¬ (hm_kind s) = (1 : Int32) → True))))) ∧ (¬ (fn10_ch s p0) = (hm_quote s) → (((hm_kind s) = 0 → (((fn10_ch s p0) = (38 : Int32) → ((wp10_isAmpersand s p0) ∧ (((fn10_isAmpersand s p0) = 0 → True) ∧ (¬ (fn10_isAmpersand s p0) = 0 → (wp10_valuePiece_c69 s))))) ∧ (¬ (fn10_ch s p0) = (38 : Int32) → (wp10_valuePiece_c69 s)))) ∧ (¬ (hm_kind s) = 0 → (((hm_kind s) = (1 : Int32) → (wp10_urlPiece s p0)) ∧ (¬ (hm_kind s) = (1 : Int32) → (((fn10_ch s p0) = (38 : Int32) → True) ∧ (¬ (fn10_ch s p0) = (38 : Int32) → (((hm_kind s) = (3 : Int32) → (wp10_valuePiece_c114 s (1 : Int32) p0)) ∧ (¬ (hm_kind s) = (3 : Int32) → (wp10_valuePiece_c114 s (0 : Int32) p0))))))))))))
set_option maxRecDepth 100000 in
set_option maxHeartbeats 4000000 in
theorem re10_valuePiece (s : hs) (p0 : Int32) (hp : wp10_valuePiece s p0) : am_lf (am_mk kb10_valuePiece 0 0 22) [31, 69, 114] (0, am_L0 [.inr (.inl 0), .inl p0] 4, [], (hm_w s), 0, 0) = some (some (.inl ((fn10_valuePiece s p0).1)), (hm_w ((fn10_valuePiece s p0).2))) := by
  unfold wp10_valuePiece at hp
  have i31 := @rc10_valuePiece_31
  have i69 := @rc10_valuePiece_69
  have i114 := @rc10_valuePiece_114
  refine am_lf_eq ?_
  generalize am_lf (am_mk kb10_valuePiece 0 0 22) [31, 69, 114] = kt at i31 i69 i114 ⊢
  refine am_cx (pre := pr10_ch) (f := fm10_ch) (r := (some (.inl (fn10_ch s p0)), (hm_w s), 0, 0)) ?_ ?_ ?_ ?_
  · exact ⟨s, p0, rfl, rfl, hp.1⟩
  · exact fe10_ch s p0
  · exact rfl
  refine am_if (c := (fn10_ch s p0) = (hm_quote s)) (fun h1 => ?_) (fun h1 => ?_)
  · have q1 := hp.2.1 h1
    refine am_if (c := (hm_part s) = 0) (fun h2 => ?_) (fun h2 => ?_)
    · have q2 := q1.1 h2
      have e : fn10_valuePiece s p0 = fn10_valuePiece_c31 s := by
        rw [fq10_valuePiece]
        rw [if_pos h1, if_pos h2]
      rw [e]
      exact i31 s _ _ _ rfl rfl rfl q2
    · have q2 := q1.2 h2
      refine am_if (c := (hm_kind s) = (1 : Int32)) (fun h3 => ?_) (fun h3 => ?_)
      · have q3 := q2.1 h3
        have e : fn10_valuePiece s p0 = fn10_valuePiece_c31 s := by
          rw [fq10_valuePiece]
          rw [if_pos h1, if_neg h2, if_pos h3]
        rw [e]
        exact i31 s _ _ _ rfl rfl rfl q3
      · have e : fn10_valuePiece s p0 = ((0 : Int32), s) := by
          rw [fq10_valuePiece]
          rw [if_pos h1, if_neg h2, if_neg h3]
        rw [e] <;> rfl
  · have q1 := hp.2.2 h1
    refine am_if (c := (hm_kind s) = 0) (fun h2 => ?_) (fun h2 => ?_)
    · have q2 := q1.1 h2
      refine am_if (c := (fn10_ch s p0) = (38 : Int32)) (fun h3 => ?_) (fun h3 => ?_)
      · have q3 := q2.1 h3
        refine am_cx (pre := pr10_isAmpersand) (f := fm10_isAmpersand) (r := (some (.inl (fn10_isAmpersand s p0)), (hm_w s), 0, 0)) ?_ ?_ ?_ ?_
        · exact ⟨s, p0, rfl, rfl, q3.1⟩
        · exact fe10_isAmpersand s p0
        · exact rfl
        refine am_if (c := (fn10_isAmpersand s p0) = 0) (fun h4 => ?_) (fun h4 => ?_)
        · have e : fn10_valuePiece s p0 = ((0 : Int32), s) := by
            rw [fq10_valuePiece]
            rw [if_neg h1, if_pos h2, if_pos h3, if_pos h4]
          rw [e] <;> rfl
        · have q4 := q3.2.2 h4
          have e : fn10_valuePiece s p0 = fn10_valuePiece_c69 s := by
            rw [fq10_valuePiece]
            rw [if_neg h1, if_pos h2, if_pos h3, if_neg h4]
          rw [e]
          exact i69 s _ _ _ rfl rfl rfl q4
      · have q3 := q2.2 h3
        have e : fn10_valuePiece s p0 = fn10_valuePiece_c69 s := by
          rw [fq10_valuePiece]
          rw [if_neg h1, if_pos h2, if_neg h3]
        rw [e]
        exact i69 s _ _ _ rfl rfl rfl q3
    · have q2 := q1.2 h2
      refine am_if (c := (hm_kind s) = (1 : Int32)) (fun h3 => ?_) (fun h3 => ?_)
      · have q3 := q2.1 h3
        refine am_cx (pre := pr10_urlPiece) (f := fm10_urlPiece) (r := (some (.inl ((fn10_urlPiece s p0).1)), (hm_w ((fn10_urlPiece s p0).2)), 0, 0)) ?_ ?_ ?_ ?_
        · exact ⟨s, p0, rfl, rfl, q3⟩
        · exact fe10_urlPiece s p0
        · exact rfl
        have e : fn10_valuePiece s p0 = ((fn10_urlPiece s p0).1, (fn10_urlPiece s p0).2) := by
          rw [fq10_valuePiece]
          rw [if_neg h1, if_neg h2, if_pos h3]
        rw [e] <;> rfl
      · have q3 := q2.2 h3
        refine am_if (c := (fn10_ch s p0) = (38 : Int32)) (fun h4 => ?_) (fun h4 => ?_)
        · have e : fn10_valuePiece s p0 = ((0 : Int32), s) := by
            rw [fq10_valuePiece]
            rw [if_neg h1, if_neg h2, if_neg h3, if_pos h4]
          rw [e] <;> rfl
        · have q4 := q3.2 h4
          refine am_if (c := (hm_kind s) = (3 : Int32)) (fun h5 => ?_) (fun h5 => ?_)
          · have q5 := q4.1 h5
            have e : fn10_valuePiece s p0 = fn10_valuePiece_c114 s (1 : Int32) p0 := by
              rw [fq10_valuePiece]
              rw [if_neg h1, if_neg h2, if_neg h3, if_neg h4, if_pos h5]
            rw [e]
            exact i114 s (1 : Int32) p0 _ _ _ rfl rfl rfl q5
          · have q5 := q4.2 h5
            have e : fn10_valuePiece s p0 = fn10_valuePiece_c114 s (0 : Int32) p0 := by
              rw [fq10_valuePiece]
              rw [if_neg h1, if_neg h2, if_neg h3, if_neg h4, if_neg h5]
            rw [e]
            exact i114 s (0 : Int32) p0 _ _ _ rfl rfl rfl q5
abbrev pr10_valuePiece : List am_V → List am_C → Prop := fun a w => ∃ (s : hs) (p0 : Int32), a = [.inr (.inl 0), .inl p0] ∧ w = (hm_w s) ∧ wp10_valuePiece s p0
noncomputable def fm10_valuePiece : am_M := fun a w => (fun (z : Int32 × hs) => (some (.inl (z.1)), (hm_w (z.2)), 0, 0)) (fn10_valuePiece (hm_st w 0) (am_i (am_an a 1)))
theorem fe10_valuePiece (s : hs) (p0 : Int32) : fm10_valuePiece [.inr (.inl 0), .inl p0] (hm_w s) = (some (.inl ((fn10_valuePiece s p0).1)), (hm_w ((fn10_valuePiece s p0).2)), 0, 0) := rfl
set_option maxRecDepth 100000 in
set_option maxHeartbeats 4000000 in
theorem rn10_valuePiece : ∀ (a : List am_V) (w : List am_C), pr10_valuePiece a w → ∃ nq, am_ev (am_mk kb10_valuePiece (fm10_valuePiece a w).2.2.1 (fm10_valuePiece a w).2.2.2 w.length) [31, 69, 114] nq (0, am_L0 a 4, [], w, 0, 0) = some ((fm10_valuePiece a w).1, (fm10_valuePiece a w).2.1) := by
  rintro a w ⟨s, p0, rfl, rfl, hp⟩
  rw [fe10_valuePiece s p0]
  exact am_lf_ev (re10_valuePiece s p0 hp)
theorem rl10_valuePiece : ∀ (a : List am_V) (w : List am_C), pr10_valuePiece a w → a.length ≤ 4 := by
  rintro a w ⟨s, p0, rfl, rfl, hp⟩
  exact Nat.le_of_ble_eq_true rfl
theorem pa10_valuePiece : ∀ a w, pr10_valuePiece a w → ∃ q a' ci fs r, a = .inr (.inl q) :: a' ∧ w[q]? = some (.inr (ci, fs)) ∧ hn_cl[ci]? = some r ∧ r.1 = hn_R10 := by
  rintro a w ⟨s, p0, rfl, rfl, hp⟩
  exact ⟨0, _, 10, _, _, rfl, rfl, rfl, rfl⟩
set_option maxRecDepth 100000 in
set_option maxHeartbeats 4000000 in
theorem km10_valuePiece {l : Launch} {E : (Nat → Prop) → State → Prop} {D : va_G} {ou : Nat → Nat} {ca : Nat → ClassId} (hE : am_EC E) : hg_Met l E D ou ca hy10_valuePiece prog_12_method_30_code 4 (some .int) 4 pr10_valuePiece fm10_valuePiece := by
  refine am_met (B := kb10_valuePiece) (cuts := [31, 69, 114]) (nt := 5) (by decide +kernel) rfl rfl (hg_tys_ok ca) ?_ (by decide) rl10_valuePiece ?_ rn10_valuePiece
  · exact fun t ht => List.mem_cons_of_mem _ (hg_arr t ht)
  · intro a w hp ad p e R s m args below meth c hR X hEs hnm
    have hR1 : 4 ≤ R.frames ∧ 160 ≤ R.locals := by rw [hR]; exact ⟨Nat.le_refl _, Nat.le_refl _⟩
    refine ⟨kd10_valuePiece_ok, fun index ci fi mode hq => kf10_ok X.2.2.2.2.1 (index, ci, fi, mode) (am_as_mem hq), fun index ci fs hq => (am_no hq).elim, fun x v hq => (am_no hq).elim, ?_, fun o t n f hq => (am_no hq).elim, rfl, rfl, by rw [hR]; exact Nat.le_refl _, by rw [hR]; exact Nat.le_refl _⟩
    intro pc sel n0 pre0 f0 hq
    have hz : ∀ q ∈ ki10_valuePiece, am_CK p l e R s m args below meth c D hn_cl (va_A (am_w ad ou ca w) s.heap.size) ou ca 4 q.1 q.2.2.1 q.2.2.2.1 q.2.2.2.2 := by
      refine am_allc (am_ck_V (n := 1) X hEs hE (km10_ch hE) (hg_good (gw_mem 1147 (by decide +kernel))) rfl (List.mem_cons_of_mem _ (gw_mem 76 (by decide +kernel))) (List.mem_cons_of_mem _ (gw_mem 1144 (by decide +kernel))) (List.mem_cons_of_mem _ (gw_mem 1146 (by decide +kernel))) (List.mem_cons_of_mem _ (gw_mem 21 (by decide +kernel))) pa10_ch (by decide +kernel) ⟨Nat.le_trans (by decide) hR1.1, Nat.le_trans (by decide) hR1.2⟩ (kd10_valuePiece_ok (2, .invokevirtual 114, 3) (List.mem_of_getElem? (i := 2) rfl))) (am_allc (am_ck_V (n := 1) X hEs hE (km10_go hE) (hg_good (gw_mem 1135 (by decide +kernel))) rfl (List.mem_cons_of_mem _ (gw_mem 76 (by decide +kernel))) (List.mem_cons_of_mem _ (gw_mem 1132 (by decide +kernel))) (List.mem_cons_of_mem _ (gw_mem 1134 (by decide +kernel))) (List.mem_cons_of_mem _ (gw_mem 18 (by decide +kernel))) pa10_go (by decide +kernel) ⟨Nat.le_trans (by decide) hR1.1, Nat.le_trans (by decide) hR1.2⟩ (kd10_valuePiece_ok (38, .invokevirtual 151, 3) (List.mem_of_getElem? (i := 22) rfl))) (am_allc (am_ck_V (n := 1) X hEs hE (km10_isAmpersand hE) (hg_good (gw_mem 1151 (by decide +kernel))) rfl (List.mem_cons_of_mem _ (gw_mem 76 (by decide +kernel))) (List.mem_cons_of_mem _ (gw_mem 1148 (by decide +kernel))) (List.mem_cons_of_mem _ (gw_mem 1150 (by decide +kernel))) (List.mem_cons_of_mem _ (gw_mem 22 (by decide +kernel))) pa10_isAmpersand (by decide +kernel) ⟨Nat.le_trans (by decide) hR1.1, Nat.le_trans (by decide) hR1.2⟩ (kd10_valuePiece_ok (63, .invokevirtual 143, 3) (List.mem_of_getElem? (i := 36) rfl))) (am_allc (am_ck_V (n := 1) X hEs hE (km10_urlPiece hE) (hg_good (gw_mem 1208 (by decide +kernel))) rfl (List.mem_cons_of_mem _ (gw_mem 76 (by decide +kernel))) (List.mem_cons_of_mem _ (gw_mem 1205 (by decide +kernel))) (List.mem_cons_of_mem _ (gw_mem 1207 (by decide +kernel))) (List.mem_cons_of_mem _ (gw_mem 34 (by decide +kernel))) pa10_urlPiece (by decide +kernel) ⟨Nat.le_trans (by decide) hR1.1, Nat.le_trans (by decide) hR1.2⟩ (kd10_valuePiece_ok (85, .invokevirtual 178, 3) (List.mem_of_getElem? (i := 48) rfl))) (am_allc (am_ck_V (n := 2) X hEs hE (km10_codePiece hE) (hg_good (gw_mem 1212 (by decide +kernel))) rfl (List.mem_cons_of_mem _ (gw_mem 76 (by decide +kernel))) (List.mem_cons_of_mem _ (gw_mem 1209 (by decide +kernel))) (List.mem_cons_of_mem _ (gw_mem 1211 (by decide +kernel))) (List.mem_cons_of_mem _ (gw_mem 35 (by decide +kernel))) pa10_codePiece (by decide +kernel) ⟨Nat.le_trans (by decide) hR1.1, Nat.le_trans (by decide) hR1.2⟩ (kd10_valuePiece_ok (114, .invokevirtual 181, 3) (List.mem_of_getElem? (i := 64) rfl))) (am_all0)))))
    exact hz _ (am_as_mem hq)
noncomputable def ki10_insidePiece : List (Nat × Option (List Nat) × Nat × (List am_V → List am_C → Prop) × am_M) := [(2, none, 2, pr10_ch, fm10_ch), (13, none, 3, pr10_codePiece, fm10_codePiece), (21, none, 2, pr10_ch, fm10_ch), (52, none, 3, pr10_isStyle, fm10_isStyle), (67, none, 3, pr10_isScript, fm10_isScript), (80, none, 2, pr10_ch, fm10_ch), (109, none, 2, pr10_go, fm10_go)]
noncomputable def kb10_insidePiece : am_B := (kd10_insidePiece, am_as kf10, hn_ty, fun _ => none, fun _ => none, am_as ki10_insidePiece, fun _ => none, 5, 6, (some .int))
noncomputable def fn10_insidePiece_c117 (s : hs) (v3 : Int32) : Int32 × hs := (if v3 = 0 then ((0 : Int32), s) else (if v3 = (47 : Int32) then ((0 : Int32), s) else (if v3 = (33 : Int32) then ((0 : Int32), s) else ((1 : Int32), s))))
def wp10_insidePiece_c117 (s : hs) (v3 : Int32) : Prop := True
set_option maxRecDepth 100000 in
set_option maxHeartbeats 4000000 in
theorem rc10_insidePiece_117 (s : hs) (v3 : Int32) (j1 : Option am_V) (j2 : Option am_V) (j4 : Option am_V) (j5 : Option am_V) (g1 : am_loO 22 j1 = true) (g2 : am_loO 22 j2 = true) (g4 : am_loO 22 j4 = true) (g5 : am_loO 22 j5 = true) (hp : wp10_insidePiece_c117 s v3) : am_lf (am_mk kb10_insidePiece 0 0 22) [35, 73, 92, 93, 117] (117, [some (.inr (.inl 0)), j1, j2, some (.inl v3), j4, j5], [], (hm_w s), 0, 0) = some (some (.inl ((fn10_insidePiece_c117 s v3).1)), (hm_w ((fn10_insidePiece_c117 s v3).2))) := by
  unfold wp10_insidePiece_c117 at hp
  refine am_lf_eq ?_
  generalize am_lf (am_mk kb10_insidePiece 0 0 22) [35, 73, 92, 93, 117] = kt
  refine am_if (c := v3 = 0) (fun h1 => ?_) (fun h1 => ?_)
  · have e : fn10_insidePiece_c117 s v3 = ((0 : Int32), s) := by
      rw [fn10_insidePiece_c117]
      rw [if_pos h1]
    rw [e] <;> rfl
  · refine am_if (c := v3 = (47 : Int32)) (fun h2 => ?_) (fun h2 => ?_)
    · have e : fn10_insidePiece_c117 s v3 = ((0 : Int32), s) := by
        rw [fn10_insidePiece_c117]
        rw [if_neg h1, if_pos h2]
      rw [e] <;> rfl
    · refine am_if (c := v3 = (33 : Int32)) (fun h3 => ?_) (fun h3 => ?_)
      · have e : fn10_insidePiece_c117 s v3 = ((0 : Int32), s) := by
          rw [fn10_insidePiece_c117]
          rw [if_neg h1, if_neg h2, if_pos h3]
        rw [e] <;> rfl
      · have e : fn10_insidePiece_c117 s v3 = ((1 : Int32), s) := by
          rw [fn10_insidePiece_c117]
          rw [if_neg h1, if_neg h2, if_neg h3]
        rw [e] <;> rfl
noncomputable def fn10_insidePiece_c93 (s : hs) (v3 : Int32) (v4 : Int32) (u0 : Int32) : Int32 × hs := (if (hm_part s) = 0 then (if u0 = 0 then (fn10_insidePiece_c117 s v3) else ((v4 + (3 : Int32)), (fn10_go s (0 : Int32)))) else (fn10_insidePiece_c117 s v3))
def wp10_insidePiece_c93 (s : hs) (v3 : Int32) (v4 : Int32) (u0 : Int32) : Prop := (((hm_part s) = 0 → ((u0 = 0 → (wp10_insidePiece_c117 s v3)) ∧ (¬ u0 = 0 → (wp10_go s (0 : Int32))))) ∧ (¬ (hm_part s) = 0 → (wp10_insidePiece_c117 s v3)))
set_option maxRecDepth 100000 in
set_option maxHeartbeats 4000000 in
theorem rc10_insidePiece_93 (s : hs) (v3 : Int32) (v4 : Int32) (u0 : Int32) (j1 : Option am_V) (j2 : Option am_V) (j5 : Option am_V) (g1 : am_loO 22 j1 = true) (g2 : am_loO 22 j2 = true) (g5 : am_loO 22 j5 = true) (hp : wp10_insidePiece_c93 s v3 v4 u0) : am_lf (am_mk kb10_insidePiece 0 0 22) [35, 73, 92, 93, 117] (93, [some (.inr (.inl 0)), j1, j2, some (.inl v3), some (.inl v4), j5], [.inl u0], (hm_w s), 0, 0) = some (some (.inl ((fn10_insidePiece_c93 s v3 v4 u0).1)), (hm_w ((fn10_insidePiece_c93 s v3 v4 u0).2))) := by
  unfold wp10_insidePiece_c93 at hp
  have i117 := @rc10_insidePiece_117
  refine am_lf_eq ?_
  generalize am_lf (am_mk kb10_insidePiece 0 0 22) [35, 73, 92, 93, 117] = kt at i117 ⊢
  refine am_if (c := (hm_part s) = 0) (fun h1 => ?_) (fun h1 => ?_)
  · have q1 := hp.1 h1
    refine am_if (c := u0 = 0) (fun h2 => ?_) (fun h2 => ?_)
    · have q2 := q1.1 h2
      have e : fn10_insidePiece_c93 s v3 v4 u0 = fn10_insidePiece_c117 s v3 := by
        rw [fn10_insidePiece_c93]
        rw [if_pos h1, if_pos h2]
      rw [e]
      exact i117 s v3 _ _ _ _ g1 g2 rfl rfl q2
    · have q2 := q1.2 h2
      refine am_cx (pre := pr10_go) (f := fm10_go) (r := (none, (hm_w (fn10_go s (0 : Int32))), 0, 0)) ?_ ?_ ?_ ?_
      · exact ⟨s, (0 : Int32), rfl, rfl, q2⟩
      · exact fe10_go s (0 : Int32)
      · exact (am_ac rfl (am_ac g1 (am_ac g2 (am_ac rfl (am_ac rfl (am_ac rfl am_a0))))))
      have e : fn10_insidePiece_c93 s v3 v4 u0 = ((v4 + (3 : Int32)), (fn10_go s (0 : Int32))) := by
        rw [fn10_insidePiece_c93]
        rw [if_pos h1, if_neg h2]
      rw [e] <;> rfl
  · have q1 := hp.2 h1
    have e : fn10_insidePiece_c93 s v3 v4 u0 = fn10_insidePiece_c117 s v3 := by
      rw [fn10_insidePiece_c93]
      rw [if_neg h1]
    rw [e]
    exact i117 s v3 _ _ _ _ g1 g2 rfl rfl q1
noncomputable def fn10_insidePiece_c92 (s : hs) (v3 : Int32) (v4 : Int32) : Int32 × hs := (fn10_insidePiece_c93 s v3 v4 (0 : Int32))
def wp10_insidePiece_c92 (s : hs) (v3 : Int32) (v4 : Int32) : Prop := (wp10_insidePiece_c93 s v3 v4 (0 : Int32))
set_option maxRecDepth 100000 in
set_option maxHeartbeats 4000000 in
theorem rc10_insidePiece_92 (s : hs) (v3 : Int32) (v4 : Int32) (j1 : Option am_V) (j2 : Option am_V) (j5 : Option am_V) (g1 : am_loO 22 j1 = true) (g2 : am_loO 22 j2 = true) (g5 : am_loO 22 j5 = true) (hp : wp10_insidePiece_c92 s v3 v4) : am_lf (am_mk kb10_insidePiece 0 0 22) [35, 73, 92, 93, 117] (92, [some (.inr (.inl 0)), j1, j2, some (.inl v3), some (.inl v4), j5], [], (hm_w s), 0, 0) = some (some (.inl ((fn10_insidePiece_c92 s v3 v4).1)), (hm_w ((fn10_insidePiece_c92 s v3 v4).2))) := by
  unfold wp10_insidePiece_c92 at hp
  have i93 := @rc10_insidePiece_93
  refine am_lf_eq ?_
  generalize am_lf (am_mk kb10_insidePiece 0 0 22) [35, 73, 92, 93, 117] = kt at i93 ⊢
  have e : fn10_insidePiece_c92 s v3 v4 = fn10_insidePiece_c93 s v3 v4 (0 : Int32) := by
    rw [fn10_insidePiece_c92]
  rw [e]
  exact i93 s v3 v4 (0 : Int32) _ _ _ g1 g2 g5 hp
noncomputable def fn10_insidePiece_c73 (s : hs) (v1 : Int32) (v3 : Int32) (v4 : Int32) : Int32 × hs := (if (fn10_ch s ((v1 + (2 : Int32)) + v4)) = (62 : Int32) then (fn10_insidePiece_c93 s v3 v4 (1 : Int32)) else (fn10_insidePiece_c92 s v3 v4))
def wp10_insidePiece_c73 (s : hs) (v1 : Int32) (v3 : Int32) (v4 : Int32) : Prop := ((wp10_ch s ((v1 + (2 : Int32)) + v4)) ∧ (((fn10_ch s ((v1 + (2 : Int32)) + v4)) = (62 : Int32) → (wp10_insidePiece_c93 s v3 v4 (1 : Int32))) ∧ (¬ (fn10_ch s ((v1 + (2 : Int32)) + v4)) = (62 : Int32) → (wp10_insidePiece_c92 s v3 v4))))
set_option maxRecDepth 100000 in
set_option maxHeartbeats 4000000 in
theorem rc10_insidePiece_73 (s : hs) (v1 : Int32) (v3 : Int32) (v4 : Int32) (j2 : Option am_V) (j5 : Option am_V) (g2 : am_loO 22 j2 = true) (g5 : am_loO 22 j5 = true) (hp : wp10_insidePiece_c73 s v1 v3 v4) : am_lf (am_mk kb10_insidePiece 0 0 22) [35, 73, 92, 93, 117] (73, [some (.inr (.inl 0)), some (.inl v1), j2, some (.inl v3), some (.inl v4), j5], [], (hm_w s), 0, 0) = some (some (.inl ((fn10_insidePiece_c73 s v1 v3 v4).1)), (hm_w ((fn10_insidePiece_c73 s v1 v3 v4).2))) := by
  unfold wp10_insidePiece_c73 at hp
  have i92 := @rc10_insidePiece_92
  have i93 := @rc10_insidePiece_93
  refine am_lf_eq ?_
  generalize am_lf (am_mk kb10_insidePiece 0 0 22) [35, 73, 92, 93, 117] = kt at i92 i93 ⊢
  refine am_cx (pre := pr10_ch) (f := fm10_ch) (r := (some (.inl (fn10_ch s ((v1 + (2 : Int32)) + v4))), (hm_w s), 0, 0)) ?_ ?_ ?_ ?_
  · exact ⟨s, ((v1 + (2 : Int32)) + v4), rfl, rfl, hp.1⟩
  · exact fe10_ch s ((v1 + (2 : Int32)) + v4)
  · exact (am_ac rfl (am_ac rfl (am_ac g2 (am_ac rfl (am_ac rfl (am_ac g5 am_a0))))))
  refine am_if (c := (fn10_ch s ((v1 + (2 : Int32)) + v4)) = (62 : Int32)) (fun h1 => ?_) (fun h1 => ?_)
  · have q1 := hp.2.1 h1
    have e : fn10_insidePiece_c73 s v1 v3 v4 = fn10_insidePiece_c93 s v3 v4 (1 : Int32) := by
      rw [fn10_insidePiece_c73]
      rw [if_pos h1]
    rw [e]
    exact i93 s v3 v4 (1 : Int32) _ _ _ rfl g2 g5 q1
  · have q1 := hp.2.2 h1
    have e : fn10_insidePiece_c73 s v1 v3 v4 = fn10_insidePiece_c92 s v3 v4 := by
      rw [fn10_insidePiece_c73]
      rw [if_neg h1]
    rw [e]
    exact i92 s v3 v4 _ _ _ rfl g2 g5 q1
noncomputable def fn10_insidePiece_c35 (s : hs) (v1 : Int32) (v2 : Int32) (v3 : Int32) (u0 : Int32) : Int32 × hs := (if v3 = (47 : Int32) then (if v2 = 0 then (if (fn10_isScript s (v1 + (2 : Int32)) (6 : Int32)) = 0 then (fn10_insidePiece_c92 s v3 u0) else (fn10_insidePiece_c73 s v1 v3 u0)) else (if (fn10_isStyle s (v1 + (2 : Int32)) (5 : Int32)) = 0 then (fn10_insidePiece_c92 s v3 u0) else (fn10_insidePiece_c73 s v1 v3 u0))) else (fn10_insidePiece_c92 s v3 u0))
def wp10_insidePiece_c35 (s : hs) (v1 : Int32) (v2 : Int32) (v3 : Int32) (u0 : Int32) : Prop := ((v3 = (47 : Int32) → ((v2 = 0 → ((wp10_isScript s (v1 + (2 : Int32)) (6 : Int32)) ∧ (((fn10_isScript s (v1 + (2 : Int32)) (6 : Int32)) = 0 → (wp10_insidePiece_c92 s v3 u0)) ∧ (¬ (fn10_isScript s (v1 + (2 : Int32)) (6 : Int32)) = 0 → (wp10_insidePiece_c73 s v1 v3 u0))))) ∧ (¬ v2 = 0 → ((wp10_isStyle s (v1 + (2 : Int32)) (5 : Int32)) ∧ (((fn10_isStyle s (v1 + (2 : Int32)) (5 : Int32)) = 0 → (wp10_insidePiece_c92 s v3 u0)) ∧ (¬ (fn10_isStyle s (v1 + (2 : Int32)) (5 : Int32)) = 0 → (wp10_insidePiece_c73 s v1 v3 u0))))))) ∧ (¬ v3 = (47 : Int32) → (wp10_insidePiece_c92 s v3 u0)))
set_option maxRecDepth 100000 in
set_option maxHeartbeats 4000000 in
theorem rc10_insidePiece_35 (s : hs) (v1 : Int32) (v2 : Int32) (v3 : Int32) (u0 : Int32) (j4 : Option am_V) (j5 : Option am_V) (g4 : am_loO 22 j4 = true) (g5 : am_loO 22 j5 = true) (hp : wp10_insidePiece_c35 s v1 v2 v3 u0) : am_lf (am_mk kb10_insidePiece 0 0 22) [35, 73, 92, 93, 117] (35, [some (.inr (.inl 0)), some (.inl v1), some (.inl v2), some (.inl v3), j4, j5], [.inl u0], (hm_w s), 0, 0) = some (some (.inl ((fn10_insidePiece_c35 s v1 v2 v3 u0).1)), (hm_w ((fn10_insidePiece_c35 s v1 v2 v3 u0).2))) := by
  unfold wp10_insidePiece_c35 at hp
  have i73 := @rc10_insidePiece_73
  have i92 := @rc10_insidePiece_92
  refine am_lf_eq ?_
  generalize am_lf (am_mk kb10_insidePiece 0 0 22) [35, 73, 92, 93, 117] = kt at i73 i92 ⊢
  refine am_if (c := v3 = (47 : Int32)) (fun h1 => ?_) (fun h1 => ?_)
  · have q1 := hp.1 h1
    refine am_if (c := v2 = 0) (fun h2 => ?_) (fun h2 => ?_)
    · have q2 := q1.1 h2
      refine am_cx (pre := pr10_isScript) (f := fm10_isScript) (r := (some (.inl (fn10_isScript s (v1 + (2 : Int32)) (6 : Int32))), (hm_w s), 0, 0)) ?_ ?_ ?_ ?_
      · exact ⟨s, (v1 + (2 : Int32)), (6 : Int32), rfl, rfl, q2.1⟩
      · exact fe10_isScript s (v1 + (2 : Int32)) (6 : Int32)
      · exact (am_ac rfl (am_ac rfl (am_ac rfl (am_ac rfl (am_ac rfl (am_ac g5 am_a0))))))
      refine am_if (c := (fn10_isScript s (v1 + (2 : Int32)) (6 : Int32)) = 0) (fun h3 => ?_) (fun h3 => ?_)
      · have q3 := q2.2.1 h3
        have e : fn10_insidePiece_c35 s v1 v2 v3 u0 = fn10_insidePiece_c92 s v3 u0 := by
          rw [fn10_insidePiece_c35]
          rw [if_pos h1, if_pos h2, if_pos h3]
        rw [e]
        exact i92 s v3 u0 _ _ _ rfl rfl g5 q3
      · have q3 := q2.2.2 h3
        have e : fn10_insidePiece_c35 s v1 v2 v3 u0 = fn10_insidePiece_c73 s v1 v3 u0 := by
          rw [fn10_insidePiece_c35]
          rw [if_pos h1, if_pos h2, if_neg h3]
        rw [e]
        exact i73 s v1 v3 u0 _ _ rfl g5 q3
    · have q2 := q1.2 h2
      refine am_cx (pre := pr10_isStyle) (f := fm10_isStyle) (r := (some (.inl (fn10_isStyle s (v1 + (2 : Int32)) (5 : Int32))), (hm_w s), 0, 0)) ?_ ?_ ?_ ?_
      · exact ⟨s, (v1 + (2 : Int32)), (5 : Int32), rfl, rfl, q2.1⟩
      · exact fe10_isStyle s (v1 + (2 : Int32)) (5 : Int32)
      · exact (am_ac rfl (am_ac rfl (am_ac rfl (am_ac rfl (am_ac rfl (am_ac g5 am_a0))))))
      refine am_if (c := (fn10_isStyle s (v1 + (2 : Int32)) (5 : Int32)) = 0) (fun h3 => ?_) (fun h3 => ?_)
      · have q3 := q2.2.1 h3
        have e : fn10_insidePiece_c35 s v1 v2 v3 u0 = fn10_insidePiece_c92 s v3 u0 := by
          rw [fn10_insidePiece_c35]
          rw [if_pos h1, if_neg h2, if_pos h3]
        rw [e]
        exact i92 s v3 u0 _ _ _ rfl rfl g5 q3
      · have q3 := q2.2.2 h3
        have e : fn10_insidePiece_c35 s v1 v2 v3 u0 = fn10_insidePiece_c73 s v1 v3 u0 := by
          rw [fn10_insidePiece_c35]
          rw [if_pos h1, if_neg h2, if_neg h3]
        rw [e]
        exact i73 s v1 v3 u0 _ _ rfl g5 q3
  · have q1 := hp.2 h1
    have e : fn10_insidePiece_c35 s v1 v2 v3 u0 = fn10_insidePiece_c92 s v3 u0 := by
      rw [fn10_insidePiece_c35]
      rw [if_neg h1]
    rw [e]
    exact i92 s v3 u0 _ _ _ rfl rfl g5 q1
noncomputable def fn10_insidePiece (s : hs) (p0 : Int32) (p1 : Int32) : Int32 × hs := Classical.choose (⟨_, rfl⟩ : ∃ z : Int32 × hs, z = (if (fn10_ch s p0) = (60 : Int32) then (if p1 = 0 then (fn10_insidePiece_c35 s p0 p1 (fn10_ch s (p0 + (1 : Int32))) (6 : Int32)) else (fn10_insidePiece_c35 s p0 p1 (fn10_ch s (p0 + (1 : Int32))) (5 : Int32))) else ((fn10_codePiece s p0 p1).1, (fn10_codePiece s p0 p1).2)))
theorem fq10_insidePiece (s : hs) (p0 : Int32) (p1 : Int32) : fn10_insidePiece s p0 p1 = (if (fn10_ch s p0) = (60 : Int32) then (if p1 = 0 then (fn10_insidePiece_c35 s p0 p1 (fn10_ch s (p0 + (1 : Int32))) (6 : Int32)) else (fn10_insidePiece_c35 s p0 p1 (fn10_ch s (p0 + (1 : Int32))) (5 : Int32))) else ((fn10_codePiece s p0 p1).1, (fn10_codePiece s p0 p1).2)) := Classical.choose_spec (⟨_, rfl⟩ : ∃ z : Int32 × hs, z = (if (fn10_ch s p0) = (60 : Int32) then (if p1 = 0 then (fn10_insidePiece_c35 s p0 p1 (fn10_ch s (p0 + (1 : Int32))) (6 : Int32)) else (fn10_insidePiece_c35 s p0 p1 (fn10_ch s (p0 + (1 : Int32))) (5 : Int32))) else ((fn10_codePiece s p0 p1).1, (fn10_codePiece s p0 p1).2)))
def wp10_insidePiece (s : hs) (p0 : Int32) (p1 : Int32) : Prop := ((wp10_ch s p0) ∧ (((fn10_ch s p0) = (60 : Int32) → ((wp10_ch s (p0 + (1 : Int32))) ∧ ((p1 = 0 → (wp10_insidePiece_c35 s p0 p1 (fn10_ch s (p0 + (1 : Int32))) (6 : Int32))) ∧ (¬ p1 = 0 → (wp10_insidePiece_c35 s p0 p1 (fn10_ch s (p0 + (1 : Int32))) (5 : Int32)))))) ∧ (¬ (fn10_ch s p0) = (60 : Int32) → (wp10_codePiece s p0 p1))))
set_option maxRecDepth 100000 in
set_option maxHeartbeats 4000000 in
theorem re10_insidePiece (s : hs) (p0 : Int32) (p1 : Int32) (hp : wp10_insidePiece s p0 p1) : am_lf (am_mk kb10_insidePiece 0 0 22) [35, 73, 92, 93, 117] (0, am_L0 [.inr (.inl 0), .inl p0, .inl p1] 6, [], (hm_w s), 0, 0) = some (some (.inl ((fn10_insidePiece s p0 p1).1)), (hm_w ((fn10_insidePiece s p0 p1).2))) := by
  unfold wp10_insidePiece at hp
  have i35 := @rc10_insidePiece_35
  refine am_lf_eq ?_
  generalize am_lf (am_mk kb10_insidePiece 0 0 22) [35, 73, 92, 93, 117] = kt at i35 ⊢
  refine am_cx (pre := pr10_ch) (f := fm10_ch) (r := (some (.inl (fn10_ch s p0)), (hm_w s), 0, 0)) ?_ ?_ ?_ ?_
  · exact ⟨s, p0, rfl, rfl, hp.1⟩
  · exact fe10_ch s p0
  · exact rfl
  refine am_if (c := (fn10_ch s p0) = (60 : Int32)) (fun h1 => ?_) (fun h1 => ?_)
  · have q1 := hp.2.1 h1
    refine am_cx (pre := pr10_ch) (f := fm10_ch) (r := (some (.inl (fn10_ch s (p0 + (1 : Int32)))), (hm_w s), 0, 0)) ?_ ?_ ?_ ?_
    · exact ⟨s, (p0 + (1 : Int32)), rfl, rfl, q1.1⟩
    · exact fe10_ch s (p0 + (1 : Int32))
    · exact rfl
    refine am_if (c := p1 = 0) (fun h2 => ?_) (fun h2 => ?_)
    · have q2 := q1.2.1 h2
      have e : fn10_insidePiece s p0 p1 = fn10_insidePiece_c35 s p0 p1 (fn10_ch s (p0 + (1 : Int32))) (6 : Int32) := by
        rw [fq10_insidePiece]
        rw [if_pos h1, if_pos h2]
      rw [e]
      exact i35 s p0 p1 (fn10_ch s (p0 + (1 : Int32))) (6 : Int32) _ _ rfl rfl q2
    · have q2 := q1.2.2 h2
      have e : fn10_insidePiece s p0 p1 = fn10_insidePiece_c35 s p0 p1 (fn10_ch s (p0 + (1 : Int32))) (5 : Int32) := by
        rw [fq10_insidePiece]
        rw [if_pos h1, if_neg h2]
      rw [e]
      exact i35 s p0 p1 (fn10_ch s (p0 + (1 : Int32))) (5 : Int32) _ _ rfl rfl q2
  · have q1 := hp.2.2 h1
    refine am_cx (pre := pr10_codePiece) (f := fm10_codePiece) (r := (some (.inl ((fn10_codePiece s p0 p1).1)), (hm_w ((fn10_codePiece s p0 p1).2)), 0, 0)) ?_ ?_ ?_ ?_
    · exact ⟨s, p0, p1, rfl, rfl, q1⟩
    · exact fe10_codePiece s p0 p1
    · exact rfl
    have e : fn10_insidePiece s p0 p1 = ((fn10_codePiece s p0 p1).1, (fn10_codePiece s p0 p1).2) := by
      rw [fq10_insidePiece]
      rw [if_neg h1]
    rw [e] <;> rfl
abbrev pr10_insidePiece : List am_V → List am_C → Prop := fun a w => ∃ (s : hs) (p0 : Int32) (p1 : Int32), a = [.inr (.inl 0), .inl p0, .inl p1] ∧ w = (hm_w s) ∧ wp10_insidePiece s p0 p1
noncomputable def fm10_insidePiece : am_M := fun a w => (fun (z : Int32 × hs) => (some (.inl (z.1)), (hm_w (z.2)), 0, 0)) (fn10_insidePiece (hm_st w 0) (am_i (am_an a 1)) (am_i (am_an a 2)))
theorem fe10_insidePiece (s : hs) (p0 : Int32) (p1 : Int32) : fm10_insidePiece [.inr (.inl 0), .inl p0, .inl p1] (hm_w s) = (some (.inl ((fn10_insidePiece s p0 p1).1)), (hm_w ((fn10_insidePiece s p0 p1).2)), 0, 0) := rfl
set_option maxRecDepth 100000 in
set_option maxHeartbeats 4000000 in
theorem rn10_insidePiece : ∀ (a : List am_V) (w : List am_C), pr10_insidePiece a w → ∃ nq, am_ev (am_mk kb10_insidePiece (fm10_insidePiece a w).2.2.1 (fm10_insidePiece a w).2.2.2 w.length) [35, 73, 92, 93, 117] nq (0, am_L0 a 6, [], w, 0, 0) = some ((fm10_insidePiece a w).1, (fm10_insidePiece a w).2.1) := by
  rintro a w ⟨s, p0, p1, rfl, rfl, hp⟩
  rw [fe10_insidePiece s p0 p1]
  exact am_lf_ev (re10_insidePiece s p0 p1 hp)
theorem rl10_insidePiece : ∀ (a : List am_V) (w : List am_C), pr10_insidePiece a w → a.length ≤ 6 := by
  rintro a w ⟨s, p0, p1, rfl, rfl, hp⟩
  exact Nat.le_of_ble_eq_true rfl
theorem pa10_insidePiece : ∀ a w, pr10_insidePiece a w → ∃ q a' ci fs r, a = .inr (.inl q) :: a' ∧ w[q]? = some (.inr (ci, fs)) ∧ hn_cl[ci]? = some r ∧ r.1 = hn_R10 := by
  rintro a w ⟨s, p0, p1, rfl, rfl, hp⟩
  exact ⟨0, _, 10, _, _, rfl, rfl, rfl, rfl⟩
set_option maxRecDepth 100000 in
set_option maxHeartbeats 4000000 in
theorem km10_insidePiece {l : Launch} {E : (Nat → Prop) → State → Prop} {D : va_G} {ou : Nat → Nat} {ca : Nat → ClassId} (hE : am_EC E) : hg_Met l E D ou ca hy10_insidePiece prog_12_method_34_code 6 (some .int) 3 pr10_insidePiece fm10_insidePiece := by
  refine am_met (B := kb10_insidePiece) (cuts := [35, 73, 92, 93, 117]) (nt := 5) (by decide +kernel) rfl rfl (hg_tys_ok ca) ?_ (by decide) rl10_insidePiece ?_ rn10_insidePiece
  · exact fun t ht => List.mem_cons_of_mem _ (hg_arr t ht)
  · intro a w hp ad p e R s m args below meth c hR X hEs hnm
    have hR1 : 3 ≤ R.frames ∧ 120 ≤ R.locals := by rw [hR]; exact ⟨Nat.le_refl _, Nat.le_refl _⟩
    refine ⟨kd10_insidePiece_ok, fun index ci fi mode hq => kf10_ok X.2.2.2.2.1 (index, ci, fi, mode) (am_as_mem hq), fun index ci fs hq => (am_no hq).elim, fun x v hq => (am_no hq).elim, ?_, fun o t n f hq => (am_no hq).elim, rfl, rfl, by rw [hR]; exact Nat.le_refl _, by rw [hR]; exact Nat.le_refl _⟩
    intro pc sel n0 pre0 f0 hq
    have hz : ∀ q ∈ ki10_insidePiece, am_CK p l e R s m args below meth c D hn_cl (va_A (am_w ad ou ca w) s.heap.size) ou ca 6 q.1 q.2.2.1 q.2.2.2.1 q.2.2.2.2 := by
      refine am_allc (am_ck_V (n := 1) X hEs hE (km10_ch hE) (hg_good (gw_mem 1147 (by decide +kernel))) rfl (List.mem_cons_of_mem _ (gw_mem 76 (by decide +kernel))) (List.mem_cons_of_mem _ (gw_mem 1144 (by decide +kernel))) (List.mem_cons_of_mem _ (gw_mem 1146 (by decide +kernel))) (List.mem_cons_of_mem _ (gw_mem 21 (by decide +kernel))) pa10_ch (by decide +kernel) ⟨Nat.le_trans (by decide) hR1.1, Nat.le_trans (by decide) hR1.2⟩ (kd10_insidePiece_ok (2, .invokevirtual 114, 3) (List.mem_of_getElem? (i := 2) rfl))) (am_allc (am_ck_V (n := 2) X hEs hE (km10_codePiece hE) (hg_good (gw_mem 1212 (by decide +kernel))) rfl (List.mem_cons_of_mem _ (gw_mem 76 (by decide +kernel))) (List.mem_cons_of_mem _ (gw_mem 1209 (by decide +kernel))) (List.mem_cons_of_mem _ (gw_mem 1211 (by decide +kernel))) (List.mem_cons_of_mem _ (gw_mem 35 (by decide +kernel))) pa10_codePiece (by decide +kernel) ⟨Nat.le_trans (by decide) hR1.1, Nat.le_trans (by decide) hR1.2⟩ (kd10_insidePiece_ok (13, .invokevirtual 181, 3) (List.mem_of_getElem? (i := 8) rfl))) (am_allc (am_ck_V (n := 1) X hEs hE (km10_ch hE) (hg_good (gw_mem 1147 (by decide +kernel))) rfl (List.mem_cons_of_mem _ (gw_mem 76 (by decide +kernel))) (List.mem_cons_of_mem _ (gw_mem 1144 (by decide +kernel))) (List.mem_cons_of_mem _ (gw_mem 1146 (by decide +kernel))) (List.mem_cons_of_mem _ (gw_mem 21 (by decide +kernel))) pa10_ch (by decide +kernel) ⟨Nat.le_trans (by decide) hR1.1, Nat.le_trans (by decide) hR1.2⟩ (kd10_insidePiece_ok (21, .invokevirtual 114, 3) (List.mem_of_getElem? (i := 14) rfl))) (am_allc (am_ck_V (n := 2) X hEs hE (km10_isStyle hE) (hg_good (gw_mem 1180 (by decide +kernel))) rfl (List.mem_cons_of_mem _ (gw_mem 76 (by decide +kernel))) (List.mem_cons_of_mem _ (gw_mem 1177 (by decide +kernel))) (List.mem_cons_of_mem _ (gw_mem 1179 (by decide +kernel))) (List.mem_cons_of_mem _ (gw_mem 27 (by decide +kernel))) pa10_isStyle (by decide +kernel) ⟨Nat.le_trans (by decide) hR1.1, Nat.le_trans (by decide) hR1.2⟩ (kd10_insidePiece_ok (52, .invokevirtual 162, 3) (List.mem_of_getElem? (i := 32) rfl))) (am_allc (am_ck_V (n := 2) X hEs hE (km10_isScript hE) (hg_good (gw_mem 1172 (by decide +kernel))) rfl (List.mem_cons_of_mem _ (gw_mem 76 (by decide +kernel))) (List.mem_cons_of_mem _ (gw_mem 1169 (by decide +kernel))) (List.mem_cons_of_mem _ (gw_mem 1171 (by decide +kernel))) (List.mem_cons_of_mem _ (gw_mem 25 (by decide +kernel))) pa10_isScript (by decide +kernel) ⟨Nat.le_trans (by decide) hR1.1, Nat.le_trans (by decide) hR1.2⟩ (kd10_insidePiece_ok (67, .invokevirtual 158, 3) (List.mem_of_getElem? (i := 40) rfl))) (am_allc (am_ck_V (n := 1) X hEs hE (km10_ch hE) (hg_good (gw_mem 1147 (by decide +kernel))) rfl (List.mem_cons_of_mem _ (gw_mem 76 (by decide +kernel))) (List.mem_cons_of_mem _ (gw_mem 1144 (by decide +kernel))) (List.mem_cons_of_mem _ (gw_mem 1146 (by decide +kernel))) (List.mem_cons_of_mem _ (gw_mem 21 (by decide +kernel))) pa10_ch (by decide +kernel) ⟨Nat.le_trans (by decide) hR1.1, Nat.le_trans (by decide) hR1.2⟩ (kd10_insidePiece_ok (80, .invokevirtual 114, 3) (List.mem_of_getElem? (i := 48) rfl))) (am_allc (am_ck_V (n := 1) X hEs hE (km10_go hE) (hg_good (gw_mem 1135 (by decide +kernel))) rfl (List.mem_cons_of_mem _ (gw_mem 76 (by decide +kernel))) (List.mem_cons_of_mem _ (gw_mem 1132 (by decide +kernel))) (List.mem_cons_of_mem _ (gw_mem 1134 (by decide +kernel))) (List.mem_cons_of_mem _ (gw_mem 18 (by decide +kernel))) pa10_go (by decide +kernel) ⟨Nat.le_trans (by decide) hR1.1, Nat.le_trans (by decide) hR1.2⟩ (kd10_insidePiece_ok (109, .invokevirtual 151, 3) (List.mem_of_getElem? (i := 62) rfl))) (am_all0)))))))
    exact hz _ (am_as_mem hq)
noncomputable def ki10_titlePiece : List (Nat × Option (List Nat) × Nat × (List am_V → List am_C → Prop) × am_M) := [(2, none, 2, pr10_ch, fm10_ch), (16, none, 2, pr10_ch, fm10_ch), (29, none, 3, pr10_isTitle, fm10_isTitle), (40, none, 2, pr10_ch, fm10_ch), (60, none, 2, pr10_go, fm10_go), (82, none, 2, pr10_isAmpersand, fm10_isAmpersand)]
noncomputable def kb10_titlePiece : am_B := (kd10_titlePiece, am_as kf10, hn_ty, fun _ => none, fun _ => none, am_as ki10_titlePiece, fun _ => none, 5, 4, (some .int))
noncomputable def fn10_titlePiece_c63 (s : hs) (v3 : Int32) : Int32 × hs := (if v3 = 0 then ((0 : Int32), s) else ((8 : Int32), s))
def wp10_titlePiece_c63 (s : hs) (v3 : Int32) : Prop := True
set_option maxRecDepth 100000 in
set_option maxHeartbeats 4000000 in
theorem rc10_titlePiece_63 (s : hs) (v3 : Int32) (j1 : Option am_V) (j2 : Option am_V) (g1 : am_loO 22 j1 = true) (g2 : am_loO 22 j2 = true) (hp : wp10_titlePiece_c63 s v3) : am_lf (am_mk kb10_titlePiece 0 0 22) [52, 53, 63, 88] (63, [some (.inr (.inl 0)), j1, j2, some (.inl v3)], [], (hm_w s), 0, 0) = some (some (.inl ((fn10_titlePiece_c63 s v3).1)), (hm_w ((fn10_titlePiece_c63 s v3).2))) := by
  unfold wp10_titlePiece_c63 at hp
  refine am_lf_eq ?_
  generalize am_lf (am_mk kb10_titlePiece 0 0 22) [52, 53, 63, 88] = kt
  refine am_if (c := v3 = 0) (fun h1 => ?_) (fun h1 => ?_)
  · have e : fn10_titlePiece_c63 s v3 = ((0 : Int32), s) := by
      rw [fn10_titlePiece_c63]
      rw [if_pos h1]
    rw [e] <;> rfl
  · have e : fn10_titlePiece_c63 s v3 = ((8 : Int32), s) := by
      rw [fn10_titlePiece_c63]
      rw [if_neg h1]
    rw [e] <;> rfl
noncomputable def fn10_titlePiece_c53 (s : hs) (u0 : Int32) : Int32 × hs := (if u0 = 0 then (fn10_titlePiece_c63 s u0) else (fn10_titlePiece_c63 (fn10_go s (0 : Int32)) u0))
def wp10_titlePiece_c53 (s : hs) (u0 : Int32) : Prop := ((u0 = 0 → (wp10_titlePiece_c63 s u0)) ∧ (¬ u0 = 0 → ((wp10_go s (0 : Int32)) ∧ (wp10_titlePiece_c63 (fn10_go s (0 : Int32)) u0))))
set_option maxRecDepth 100000 in
set_option maxHeartbeats 4000000 in
theorem rc10_titlePiece_53 (s : hs) (u0 : Int32) (j1 : Option am_V) (j2 : Option am_V) (j3 : Option am_V) (g1 : am_loO 22 j1 = true) (g2 : am_loO 22 j2 = true) (g3 : am_loO 22 j3 = true) (hp : wp10_titlePiece_c53 s u0) : am_lf (am_mk kb10_titlePiece 0 0 22) [52, 53, 63, 88] (53, [some (.inr (.inl 0)), j1, j2, j3], [.inl u0], (hm_w s), 0, 0) = some (some (.inl ((fn10_titlePiece_c53 s u0).1)), (hm_w ((fn10_titlePiece_c53 s u0).2))) := by
  unfold wp10_titlePiece_c53 at hp
  have i63 := @rc10_titlePiece_63
  refine am_lf_eq ?_
  generalize am_lf (am_mk kb10_titlePiece 0 0 22) [52, 53, 63, 88] = kt at i63 ⊢
  refine am_if (c := u0 = 0) (fun h1 => ?_) (fun h1 => ?_)
  · have q1 := hp.1 h1
    have e : fn10_titlePiece_c53 s u0 = fn10_titlePiece_c63 s u0 := by
      rw [fn10_titlePiece_c53]
      rw [if_pos h1]
    rw [e]
    exact i63 s u0 _ _ g1 g2 q1
  · have q1 := hp.2 h1
    refine am_cx (pre := pr10_go) (f := fm10_go) (r := (none, (hm_w (fn10_go s (0 : Int32))), 0, 0)) ?_ ?_ ?_ ?_
    · exact ⟨s, (0 : Int32), rfl, rfl, q1.1⟩
    · exact fe10_go s (0 : Int32)
    · exact (am_ac rfl (am_ac g1 (am_ac g2 (am_ac rfl am_a0))))
    have e : fn10_titlePiece_c53 s u0 = fn10_titlePiece_c63 (fn10_go s (0 : Int32)) u0 := by
      rw [fn10_titlePiece_c53]
      rw [if_neg h1]
    rw [e]
    exact i63 (fn10_go s (0 : Int32)) u0 _ _ g1 g2 q1.2
noncomputable def fn10_titlePiece_c52 (s : hs) : Int32 × hs := (fn10_titlePiece_c53 s (0 : Int32))
def wp10_titlePiece_c52 (s : hs) : Prop := (wp10_titlePiece_c53 s (0 : Int32))
set_option maxRecDepth 100000 in
set_option maxHeartbeats 4000000 in
theorem rc10_titlePiece_52 (s : hs) (j1 : Option am_V) (j2 : Option am_V) (j3 : Option am_V) (g1 : am_loO 22 j1 = true) (g2 : am_loO 22 j2 = true) (g3 : am_loO 22 j3 = true) (hp : wp10_titlePiece_c52 s) : am_lf (am_mk kb10_titlePiece 0 0 22) [52, 53, 63, 88] (52, [some (.inr (.inl 0)), j1, j2, j3], [], (hm_w s), 0, 0) = some (some (.inl ((fn10_titlePiece_c52 s).1)), (hm_w ((fn10_titlePiece_c52 s).2))) := by
  unfold wp10_titlePiece_c52 at hp
  have i53 := @rc10_titlePiece_53
  refine am_lf_eq ?_
  generalize am_lf (am_mk kb10_titlePiece 0 0 22) [52, 53, 63, 88] = kt at i53 ⊢
  have e : fn10_titlePiece_c52 s = fn10_titlePiece_c53 s (0 : Int32) := by
    rw [fn10_titlePiece_c52]
  rw [e]
  exact i53 s (0 : Int32) _ _ _ g1 g2 g3 hp
noncomputable def fn10_titlePiece_c88 (s : hs) : Int32 × hs := ((1 : Int32), s)
def wp10_titlePiece_c88 (s : hs) : Prop := True
set_option maxRecDepth 100000 in
set_option maxHeartbeats 4000000 in
theorem rc10_titlePiece_88 (s : hs) (j1 : Option am_V) (j2 : Option am_V) (j3 : Option am_V) (g1 : am_loO 22 j1 = true) (g2 : am_loO 22 j2 = true) (g3 : am_loO 22 j3 = true) (hp : wp10_titlePiece_c88 s) : am_lf (am_mk kb10_titlePiece 0 0 22) [52, 53, 63, 88] (88, [some (.inr (.inl 0)), j1, j2, j3], [], (hm_w s), 0, 0) = some (some (.inl ((fn10_titlePiece_c88 s).1)), (hm_w ((fn10_titlePiece_c88 s).2))) := by
  unfold wp10_titlePiece_c88 at hp
  refine am_lf_eq ?_
  generalize am_lf (am_mk kb10_titlePiece 0 0 22) [52, 53, 63, 88] = kt
  have e : fn10_titlePiece_c88 s = ((1 : Int32), s) := by
    rw [fn10_titlePiece_c88]
  rw [e] <;> rfl
noncomputable def fn10_titlePiece (s : hs) (p0 : Int32) : Int32 × hs := Classical.choose (⟨_, rfl⟩ : ∃ z : Int32 × hs, z = (if (fn10_ch s p0) = (60 : Int32) then (if (fn10_ch s (p0 + (1 : Int32))) = (47 : Int32) then (if (fn10_isTitle s (p0 + (2 : Int32)) (5 : Int32)) = 0 then (fn10_titlePiece_c52 s) else (if (fn10_ch s (p0 + (7 : Int32))) = (62 : Int32) then (fn10_titlePiece_c53 s (1 : Int32)) else (fn10_titlePiece_c52 s))) else (fn10_titlePiece_c52 s)) else (if (fn10_ch s p0) = (38 : Int32) then (if (fn10_isAmpersand s p0) = 0 then ((0 : Int32), s) else (fn10_titlePiece_c88 s)) else (fn10_titlePiece_c88 s))))
theorem fq10_titlePiece (s : hs) (p0 : Int32) : fn10_titlePiece s p0 = (if (fn10_ch s p0) = (60 : Int32) then (if (fn10_ch s (p0 + (1 : Int32))) = (47 : Int32) then (if (fn10_isTitle s (p0 + (2 : Int32)) (5 : Int32)) = 0 then (fn10_titlePiece_c52 s) else (if (fn10_ch s (p0 + (7 : Int32))) = (62 : Int32) then (fn10_titlePiece_c53 s (1 : Int32)) else (fn10_titlePiece_c52 s))) else (fn10_titlePiece_c52 s)) else (if (fn10_ch s p0) = (38 : Int32) then (if (fn10_isAmpersand s p0) = 0 then ((0 : Int32), s) else (fn10_titlePiece_c88 s)) else (fn10_titlePiece_c88 s))) := Classical.choose_spec (⟨_, rfl⟩ : ∃ z : Int32 × hs, z = (if (fn10_ch s p0) = (60 : Int32) then (if (fn10_ch s (p0 + (1 : Int32))) = (47 : Int32) then (if (fn10_isTitle s (p0 + (2 : Int32)) (5 : Int32)) = 0 then (fn10_titlePiece_c52 s) else (if (fn10_ch s (p0 + (7 : Int32))) = (62 : Int32) then (fn10_titlePiece_c53 s (1 : Int32)) else (fn10_titlePiece_c52 s))) else (fn10_titlePiece_c52 s)) else (if (fn10_ch s p0) = (38 : Int32) then (if (fn10_isAmpersand s p0) = 0 then ((0 : Int32), s) else (fn10_titlePiece_c88 s)) else (fn10_titlePiece_c88 s))))
def wp10_titlePiece (s : hs) (p0 : Int32) : Prop := ((wp10_ch s p0) ∧ (((fn10_ch s p0) = (60 : Int32) → ((wp10_ch s (p0 + (1 : Int32))) ∧ (((fn10_ch s (p0 + (1 : Int32))) = (47 : Int32) → ((wp10_isTitle s (p0 + (2 : Int32)) (5 : Int32)) ∧ (((fn10_isTitle s (p0 + (2 : Int32)) (5 : Int32)) = 0 → (wp10_titlePiece_c52 s)) ∧ (¬ (fn10_isTitle s (p0 + (2 : Int32)) (5 : Int32)) = 0 → ((wp10_ch s (p0 + (7 : Int32))) ∧ (((fn10_ch s (p0 + (7 : Int32))) = (62 : Int32) → (wp10_titlePiece_c53 s (1 : Int32))) ∧ (¬ (fn10_ch s (p0 + (7 : Int32))) = (62 : Int32) → (wp10_titlePiece_c52 s)))))))) ∧ (¬ (fn10_ch s (p0 + (1 : Int32))) = (47 : Int32) → (wp10_titlePiece_c52 s))))) ∧ (¬ (fn10_ch s p0) = (60 : Int32) → (((fn10_ch s p0) = (38 : Int32) → ((wp10_isAmpersand s p0) ∧ (((fn10_isAmpersand s p0) = 0 → True) ∧ (¬ (fn10_isAmpersand s p0) = 0 → (wp10_titlePiece_c88 s))))) ∧ (¬ (fn10_ch s p0) = (38 : Int32) → (wp10_titlePiece_c88 s))))))
set_option maxRecDepth 100000 in
set_option maxHeartbeats 4000000 in
theorem re10_titlePiece (s : hs) (p0 : Int32) (hp : wp10_titlePiece s p0) : am_lf (am_mk kb10_titlePiece 0 0 22) [52, 53, 63, 88] (0, am_L0 [.inr (.inl 0), .inl p0] 4, [], (hm_w s), 0, 0) = some (some (.inl ((fn10_titlePiece s p0).1)), (hm_w ((fn10_titlePiece s p0).2))) := by
  unfold wp10_titlePiece at hp
  have i52 := @rc10_titlePiece_52
  have i53 := @rc10_titlePiece_53
  have i88 := @rc10_titlePiece_88
  refine am_lf_eq ?_
  generalize am_lf (am_mk kb10_titlePiece 0 0 22) [52, 53, 63, 88] = kt at i52 i53 i88 ⊢
  refine am_cx (pre := pr10_ch) (f := fm10_ch) (r := (some (.inl (fn10_ch s p0)), (hm_w s), 0, 0)) ?_ ?_ ?_ ?_
  · exact ⟨s, p0, rfl, rfl, hp.1⟩
  · exact fe10_ch s p0
  · exact rfl
  refine am_if (c := (fn10_ch s p0) = (60 : Int32)) (fun h1 => ?_) (fun h1 => ?_)
  · have q1 := hp.2.1 h1
    refine am_cx (pre := pr10_ch) (f := fm10_ch) (r := (some (.inl (fn10_ch s (p0 + (1 : Int32)))), (hm_w s), 0, 0)) ?_ ?_ ?_ ?_
    · exact ⟨s, (p0 + (1 : Int32)), rfl, rfl, q1.1⟩
    · exact fe10_ch s (p0 + (1 : Int32))
    · exact rfl
    refine am_if (c := (fn10_ch s (p0 + (1 : Int32))) = (47 : Int32)) (fun h2 => ?_) (fun h2 => ?_)
    · have q2 := q1.2.1 h2
      refine am_cx (pre := pr10_isTitle) (f := fm10_isTitle) (r := (some (.inl (fn10_isTitle s (p0 + (2 : Int32)) (5 : Int32))), (hm_w s), 0, 0)) ?_ ?_ ?_ ?_
      · exact ⟨s, (p0 + (2 : Int32)), (5 : Int32), rfl, rfl, q2.1⟩
      · exact fe10_isTitle s (p0 + (2 : Int32)) (5 : Int32)
      · exact rfl
      refine am_if (c := (fn10_isTitle s (p0 + (2 : Int32)) (5 : Int32)) = 0) (fun h3 => ?_) (fun h3 => ?_)
      · have q3 := q2.2.1 h3
        have e : fn10_titlePiece s p0 = fn10_titlePiece_c52 s := by
          rw [fq10_titlePiece]
          rw [if_pos h1, if_pos h2, if_pos h3]
        rw [e]
        exact i52 s _ _ _ rfl rfl rfl q3
      · have q3 := q2.2.2 h3
        refine am_cx (pre := pr10_ch) (f := fm10_ch) (r := (some (.inl (fn10_ch s (p0 + (7 : Int32)))), (hm_w s), 0, 0)) ?_ ?_ ?_ ?_
        · exact ⟨s, (p0 + (7 : Int32)), rfl, rfl, q3.1⟩
        · exact fe10_ch s (p0 + (7 : Int32))
        · exact rfl
        refine am_if (c := (fn10_ch s (p0 + (7 : Int32))) = (62 : Int32)) (fun h4 => ?_) (fun h4 => ?_)
        · have q4 := q3.2.1 h4
          have e : fn10_titlePiece s p0 = fn10_titlePiece_c53 s (1 : Int32) := by
            rw [fq10_titlePiece]
            rw [if_pos h1, if_pos h2, if_neg h3, if_pos h4]
          rw [e]
          exact i53 s (1 : Int32) _ _ _ rfl rfl rfl q4
        · have q4 := q3.2.2 h4
          have e : fn10_titlePiece s p0 = fn10_titlePiece_c52 s := by
            rw [fq10_titlePiece]
            rw [if_pos h1, if_pos h2, if_neg h3, if_neg h4]
          rw [e]
          exact i52 s _ _ _ rfl rfl rfl q4
    · have q2 := q1.2.2 h2
      have e : fn10_titlePiece s p0 = fn10_titlePiece_c52 s := by
        rw [fq10_titlePiece]
        rw [if_pos h1, if_neg h2]
      rw [e]
      exact i52 s _ _ _ rfl rfl rfl q2
  · have q1 := hp.2.2 h1
    refine am_if (c := (fn10_ch s p0) = (38 : Int32)) (fun h2 => ?_) (fun h2 => ?_)
    · have q2 := q1.1 h2
      refine am_cx (pre := pr10_isAmpersand) (f := fm10_isAmpersand) (r := (some (.inl (fn10_isAmpersand s p0)), (hm_w s), 0, 0)) ?_ ?_ ?_ ?_
      · exact ⟨s, p0, rfl, rfl, q2.1⟩
      · exact fe10_isAmpersand s p0
      · exact rfl
      refine am_if (c := (fn10_isAmpersand s p0) = 0) (fun h3 => ?_) (fun h3 => ?_)
      · have e : fn10_titlePiece s p0 = ((0 : Int32), s) := by
          rw [fq10_titlePiece]
          rw [if_neg h1, if_pos h2, if_pos h3]
        rw [e] <;> rfl
      · have q3 := q2.2.2 h3
        have e : fn10_titlePiece s p0 = fn10_titlePiece_c88 s := by
          rw [fq10_titlePiece]
          rw [if_neg h1, if_pos h2, if_neg h3]
        rw [e]
        exact i88 s _ _ _ rfl rfl rfl q3
    · have q2 := q1.2 h2
      have e : fn10_titlePiece s p0 = fn10_titlePiece_c88 s := by
        rw [fq10_titlePiece]
        rw [if_neg h1, if_neg h2]
      rw [e]
      exact i88 s _ _ _ rfl rfl rfl q2
abbrev pr10_titlePiece : List am_V → List am_C → Prop := fun a w => ∃ (s : hs) (p0 : Int32), a = [.inr (.inl 0), .inl p0] ∧ w = (hm_w s) ∧ wp10_titlePiece s p0
noncomputable def fm10_titlePiece : am_M := fun a w => (fun (z : Int32 × hs) => (some (.inl (z.1)), (hm_w (z.2)), 0, 0)) (fn10_titlePiece (hm_st w 0) (am_i (am_an a 1)))
theorem fe10_titlePiece (s : hs) (p0 : Int32) : fm10_titlePiece [.inr (.inl 0), .inl p0] (hm_w s) = (some (.inl ((fn10_titlePiece s p0).1)), (hm_w ((fn10_titlePiece s p0).2)), 0, 0) := rfl
set_option maxRecDepth 100000 in
set_option maxHeartbeats 4000000 in
theorem rn10_titlePiece : ∀ (a : List am_V) (w : List am_C), pr10_titlePiece a w → ∃ nq, am_ev (am_mk kb10_titlePiece (fm10_titlePiece a w).2.2.1 (fm10_titlePiece a w).2.2.2 w.length) [52, 53, 63, 88] nq (0, am_L0 a 4, [], w, 0, 0) = some ((fm10_titlePiece a w).1, (fm10_titlePiece a w).2.1) := by
  rintro a w ⟨s, p0, rfl, rfl, hp⟩
  rw [fe10_titlePiece s p0]
  exact am_lf_ev (re10_titlePiece s p0 hp)
theorem rl10_titlePiece : ∀ (a : List am_V) (w : List am_C), pr10_titlePiece a w → a.length ≤ 4 := by
  rintro a w ⟨s, p0, rfl, rfl, hp⟩
  exact Nat.le_of_ble_eq_true rfl
theorem pa10_titlePiece : ∀ a w, pr10_titlePiece a w → ∃ q a' ci fs r, a = .inr (.inl q) :: a' ∧ w[q]? = some (.inr (ci, fs)) ∧ hn_cl[ci]? = some r ∧ r.1 = hn_R10 := by
  rintro a w ⟨s, p0, rfl, rfl, hp⟩
  exact ⟨0, _, 10, _, _, rfl, rfl, rfl, rfl⟩
set_option maxRecDepth 100000 in
set_option maxHeartbeats 4000000 in
theorem km10_titlePiece {l : Launch} {E : (Nat → Prop) → State → Prop} {D : va_G} {ou : Nat → Nat} {ca : Nat → ClassId} (hE : am_EC E) : hg_Met l E D ou ca hy10_titlePiece prog_12_method_35_code 4 (some .int) 3 pr10_titlePiece fm10_titlePiece := by
  refine am_met (B := kb10_titlePiece) (cuts := [52, 53, 63, 88]) (nt := 5) (by decide +kernel) rfl rfl (hg_tys_ok ca) ?_ (by decide) rl10_titlePiece ?_ rn10_titlePiece
  · exact fun t ht => List.mem_cons_of_mem _ (hg_arr t ht)
  · intro a w hp ad p e R s m args below meth c hR X hEs hnm
    have hR1 : 3 ≤ R.frames ∧ 120 ≤ R.locals := by rw [hR]; exact ⟨Nat.le_refl _, Nat.le_refl _⟩
    refine ⟨kd10_titlePiece_ok, fun index ci fi mode hq => kf10_ok X.2.2.2.2.1 (index, ci, fi, mode) (am_as_mem hq), fun index ci fs hq => (am_no hq).elim, fun x v hq => (am_no hq).elim, ?_, fun o t n f hq => (am_no hq).elim, rfl, rfl, by rw [hR]; exact Nat.le_refl _, by rw [hR]; exact Nat.le_refl _⟩
    intro pc sel n0 pre0 f0 hq
    have hz : ∀ q ∈ ki10_titlePiece, am_CK p l e R s m args below meth c D hn_cl (va_A (am_w ad ou ca w) s.heap.size) ou ca 4 q.1 q.2.2.1 q.2.2.2.1 q.2.2.2.2 := by
      refine am_allc (am_ck_V (n := 1) X hEs hE (km10_ch hE) (hg_good (gw_mem 1147 (by decide +kernel))) rfl (List.mem_cons_of_mem _ (gw_mem 76 (by decide +kernel))) (List.mem_cons_of_mem _ (gw_mem 1144 (by decide +kernel))) (List.mem_cons_of_mem _ (gw_mem 1146 (by decide +kernel))) (List.mem_cons_of_mem _ (gw_mem 21 (by decide +kernel))) pa10_ch (by decide +kernel) ⟨Nat.le_trans (by decide) hR1.1, Nat.le_trans (by decide) hR1.2⟩ (kd10_titlePiece_ok (2, .invokevirtual 114, 3) (List.mem_of_getElem? (i := 2) rfl))) (am_allc (am_ck_V (n := 1) X hEs hE (km10_ch hE) (hg_good (gw_mem 1147 (by decide +kernel))) rfl (List.mem_cons_of_mem _ (gw_mem 76 (by decide +kernel))) (List.mem_cons_of_mem _ (gw_mem 1144 (by decide +kernel))) (List.mem_cons_of_mem _ (gw_mem 1146 (by decide +kernel))) (List.mem_cons_of_mem _ (gw_mem 21 (by decide +kernel))) pa10_ch (by decide +kernel) ⟨Nat.le_trans (by decide) hR1.1, Nat.le_trans (by decide) hR1.2⟩ (kd10_titlePiece_ok (16, .invokevirtual 114, 3) (List.mem_of_getElem? (i := 11) rfl))) (am_allc (am_ck_V (n := 2) X hEs hE (km10_isTitle hE) (hg_good (gw_mem 1184 (by decide +kernel))) rfl (List.mem_cons_of_mem _ (gw_mem 76 (by decide +kernel))) (List.mem_cons_of_mem _ (gw_mem 1181 (by decide +kernel))) (List.mem_cons_of_mem _ (gw_mem 1183 (by decide +kernel))) (List.mem_cons_of_mem _ (gw_mem 28 (by decide +kernel))) pa10_isTitle (by decide +kernel) ⟨Nat.le_trans (by decide) hR1.1, Nat.le_trans (by decide) hR1.2⟩ (kd10_titlePiece_ok (29, .invokevirtual 165, 3) (List.mem_of_getElem? (i := 19) rfl))) (am_allc (am_ck_V (n := 1) X hEs hE (km10_ch hE) (hg_good (gw_mem 1147 (by decide +kernel))) rfl (List.mem_cons_of_mem _ (gw_mem 76 (by decide +kernel))) (List.mem_cons_of_mem _ (gw_mem 1144 (by decide +kernel))) (List.mem_cons_of_mem _ (gw_mem 1146 (by decide +kernel))) (List.mem_cons_of_mem _ (gw_mem 21 (by decide +kernel))) pa10_ch (by decide +kernel) ⟨Nat.le_trans (by decide) hR1.1, Nat.le_trans (by decide) hR1.2⟩ (kd10_titlePiece_ok (40, .invokevirtual 114, 3) (List.mem_of_getElem? (i := 25) rfl))) (am_allc (am_ck_V (n := 1) X hEs hE (km10_go hE) (hg_good (gw_mem 1135 (by decide +kernel))) rfl (List.mem_cons_of_mem _ (gw_mem 76 (by decide +kernel))) (List.mem_cons_of_mem _ (gw_mem 1132 (by decide +kernel))) (List.mem_cons_of_mem _ (gw_mem 1134 (by decide +kernel))) (List.mem_cons_of_mem _ (gw_mem 18 (by decide +kernel))) pa10_go (by decide +kernel) ⟨Nat.le_trans (by decide) hR1.1, Nat.le_trans (by decide) hR1.2⟩ (kd10_titlePiece_ok (60, .invokevirtual 151, 3) (List.mem_of_getElem? (i := 36) rfl))) (am_allc (am_ck_V (n := 1) X hEs hE (km10_isAmpersand hE) (hg_good (gw_mem 1151 (by decide +kernel))) rfl (List.mem_cons_of_mem _ (gw_mem 76 (by decide +kernel))) (List.mem_cons_of_mem _ (gw_mem 1148 (by decide +kernel))) (List.mem_cons_of_mem _ (gw_mem 1150 (by decide +kernel))) (List.mem_cons_of_mem _ (gw_mem 22 (by decide +kernel))) pa10_isAmpersand (by decide +kernel) ⟨Nat.le_trans (by decide) hR1.1, Nat.le_trans (by decide) hR1.2⟩ (kd10_titlePiece_ok (82, .invokevirtual 143, 3) (List.mem_of_getElem? (i := 48) rfl))) (am_all0))))))
    exact hz _ (am_as_mem hq)
