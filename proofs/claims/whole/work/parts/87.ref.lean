noncomputable def ki10_commentPiece : List (Nat × Option (List Nat) × Nat × (List am_V → List am_C → Prop) × am_M) := [(2, none, 2, pr10_ch, fm10_ch), (16, none, 2, pr10_ch, fm10_ch), (28, none, 2, pr10_ch, fm10_ch), (38, none, 2, pr10_go, fm10_go), (47, none, 2, pr10_ch, fm10_ch), (57, none, 2, pr10_ch, fm10_ch)]
noncomputable def kb10_commentPiece : am_B := (kd10_commentPiece, am_as kf10, hn_ty, fun _ => none, fun _ => none, am_as ki10_commentPiece, fun _ => none, 5, 2, (some .int))
noncomputable def fn10_commentPiece_c43 (s : hs) (v1 : Int32) : Int32 × hs := (if (fn10_ch s (v1 + (1 : Int32))) = 0 then ((0 : Int32), s) else (if (fn10_ch s (v1 + (2 : Int32))) = 0 then ((0 : Int32), s) else ((1 : Int32), s)))
def wp10_commentPiece_c43 (s : hs) (v1 : Int32) : Prop := ((wp10_ch s (v1 + (1 : Int32))) ∧ (((fn10_ch s (v1 + (1 : Int32))) = 0 → True) ∧ (¬ (fn10_ch s (v1 + (1 : Int32))) = 0 → (wp10_ch s (v1 + (2 : Int32))))))
set_option maxRecDepth 100000 in
set_option maxHeartbeats 4000000 in
theorem rc10_commentPiece_43 (s : hs) (v1 : Int32) (hp : wp10_commentPiece_c43 s v1) : am_lf (am_mk kb10_commentPiece 0 0 22) [43] (43, [some (.inr (.inl 0)), some (.inl v1)], [], (hm_w s), 0, 0) = some (some (.inl ((fn10_commentPiece_c43 s v1).1)), (hm_w ((fn10_commentPiece_c43 s v1).2))) := by
  unfold wp10_commentPiece_c43 at hp
  refine am_lf_eq ?_
  generalize am_lf (am_mk kb10_commentPiece 0 0 22) [43] = kt
  refine am_cx (pre := pr10_ch) (f := fm10_ch) (r := (some (.inl (fn10_ch s (v1 + (1 : Int32)))), (hm_w s), 0, 0)) ?_ ?_ ?_ ?_
  · exact ⟨s, (v1 + (1 : Int32)), rfl, rfl, hp.1⟩
  · exact fe10_ch s (v1 + (1 : Int32))
  · exact rfl
  refine am_if (c := (fn10_ch s (v1 + (1 : Int32))) = 0) (fun h1 => ?_) (fun h1 => ?_)
  · have e : fn10_commentPiece_c43 s v1 = ((0 : Int32), s) := by
      rw [fn10_commentPiece_c43]
      rw [if_pos h1]
    rw [e] <;> rfl
  · have q1 := hp.2.2 h1
    refine am_cx (pre := pr10_ch) (f := fm10_ch) (r := (some (.inl (fn10_ch s (v1 + (2 : Int32)))), (hm_w s), 0, 0)) ?_ ?_ ?_ ?_
    · exact ⟨s, (v1 + (2 : Int32)), rfl, rfl, q1⟩
    · exact fe10_ch s (v1 + (2 : Int32))
    · exact rfl
    refine am_if (c := (fn10_ch s (v1 + (2 : Int32))) = 0) (fun h2 => ?_) (fun h2 => ?_)
    · have e : fn10_commentPiece_c43 s v1 = ((0 : Int32), s) := by
        rw [fn10_commentPiece_c43]
        rw [if_neg h1, if_pos h2]
      rw [e] <;> rfl
    · have e : fn10_commentPiece_c43 s v1 = ((1 : Int32), s) := by
        rw [fn10_commentPiece_c43]
        rw [if_neg h1, if_neg h2]
      rw [e] <;> rfl
noncomputable def fn10_commentPiece (s : hs) (p0 : Int32) : Int32 × hs := Classical.choose (⟨_, rfl⟩ : ∃ z : Int32 × hs, z = (if (fn10_ch s p0) = (45 : Int32) then (if (fn10_ch s (p0 + (1 : Int32))) = (45 : Int32) then (if (fn10_ch s (p0 + (2 : Int32))) = (62 : Int32) then ((3 : Int32), (fn10_go s (0 : Int32))) else (fn10_commentPiece_c43 s p0)) else (fn10_commentPiece_c43 s p0)) else ((1 : Int32), s)))
theorem fq10_commentPiece (s : hs) (p0 : Int32) : fn10_commentPiece s p0 = (if (fn10_ch s p0) = (45 : Int32) then (if (fn10_ch s (p0 + (1 : Int32))) = (45 : Int32) then (if (fn10_ch s (p0 + (2 : Int32))) = (62 : Int32) then ((3 : Int32), (fn10_go s (0 : Int32))) else (fn10_commentPiece_c43 s p0)) else (fn10_commentPiece_c43 s p0)) else ((1 : Int32), s)) := Classical.choose_spec (⟨_, rfl⟩ : ∃ z : Int32 × hs, z = (if (fn10_ch s p0) = (45 : Int32) then (if (fn10_ch s (p0 + (1 : Int32))) = (45 : Int32) then (if (fn10_ch s (p0 + (2 : Int32))) = (62 : Int32) then ((3 : Int32), (fn10_go s (0 : Int32))) else (fn10_commentPiece_c43 s p0)) else (fn10_commentPiece_c43 s p0)) else ((1 : Int32), s)))
def wp10_commentPiece (s : hs) (p0 : Int32) : Prop := ((wp10_ch s p0) ∧ (((fn10_ch s p0) = (45 : Int32) → ((wp10_ch s (p0 + (1 : Int32))) ∧ (((fn10_ch s (p0 + (1 : Int32))) = (45 : Int32) → ((wp10_ch s (p0 + (2 : Int32))) ∧ (((fn10_ch s (p0 + (2 : Int32))) = (62 : Int32) → (wp10_go s (0 : Int32))) ∧ (¬ (fn10_ch s (p0 + (2 : Int32))) = (62 : Int32) → (wp10_commentPiece_c43 s p0))))) ∧ (¬ (fn10_ch s (p0 + (1 : Int32))) = (45 : Int32) → (wp10_commentPiece_c43 s p0))))) ∧ (¬ (fn10_ch s p0) = (45 : Int32) → True)))
set_option maxRecDepth 100000 in
set_option maxHeartbeats 4000000 in
theorem re10_commentPiece (s : hs) (p0 : Int32) (hp : wp10_commentPiece s p0) : am_lf (am_mk kb10_commentPiece 0 0 22) [43] (0, am_L0 [.inr (.inl 0), .inl p0] 2, [], (hm_w s), 0, 0) = some (some (.inl ((fn10_commentPiece s p0).1)), (hm_w ((fn10_commentPiece s p0).2))) := by
  unfold wp10_commentPiece at hp
  have i43 := @rc10_commentPiece_43
  refine am_lf_eq ?_
  generalize am_lf (am_mk kb10_commentPiece 0 0 22) [43] = kt at i43 ⊢
  refine am_cx (pre := pr10_ch) (f := fm10_ch) (r := (some (.inl (fn10_ch s p0)), (hm_w s), 0, 0)) ?_ ?_ ?_ ?_
  · exact ⟨s, p0, rfl, rfl, hp.1⟩
  · exact fe10_ch s p0
  · exact rfl
  refine am_if (c := (fn10_ch s p0) = (45 : Int32)) (fun h1 => ?_) (fun h1 => ?_)
  · have q1 := hp.2.1 h1
    refine am_cx (pre := pr10_ch) (f := fm10_ch) (r := (some (.inl (fn10_ch s (p0 + (1 : Int32)))), (hm_w s), 0, 0)) ?_ ?_ ?_ ?_
    · exact ⟨s, (p0 + (1 : Int32)), rfl, rfl, q1.1⟩
    · exact fe10_ch s (p0 + (1 : Int32))
    · exact rfl
    refine am_if (c := (fn10_ch s (p0 + (1 : Int32))) = (45 : Int32)) (fun h2 => ?_) (fun h2 => ?_)
    · have q2 := q1.2.1 h2
      refine am_cx (pre := pr10_ch) (f := fm10_ch) (r := (some (.inl (fn10_ch s (p0 + (2 : Int32)))), (hm_w s), 0, 0)) ?_ ?_ ?_ ?_
      · exact ⟨s, (p0 + (2 : Int32)), rfl, rfl, q2.1⟩
      · exact fe10_ch s (p0 + (2 : Int32))
      · exact rfl
      refine am_if (c := (fn10_ch s (p0 + (2 : Int32))) = (62 : Int32)) (fun h3 => ?_) (fun h3 => ?_)
      · have q3 := q2.2.1 h3
        refine am_cx (pre := pr10_go) (f := fm10_go) (r := (none, (hm_w (fn10_go s (0 : Int32))), 0, 0)) ?_ ?_ ?_ ?_
        · exact ⟨s, (0 : Int32), rfl, rfl, q3⟩
        · exact fe10_go s (0 : Int32)
        · exact rfl
        have e : fn10_commentPiece s p0 = ((3 : Int32), (fn10_go s (0 : Int32))) := by
          rw [fq10_commentPiece]
          rw [if_pos h1, if_pos h2, if_pos h3]
        rw [e] <;> rfl
      · have q3 := q2.2.2 h3
        have e : fn10_commentPiece s p0 = fn10_commentPiece_c43 s p0 := by
          rw [fq10_commentPiece]
          rw [if_pos h1, if_pos h2, if_neg h3]
        rw [e]
        exact i43 s p0  q3
    · have q2 := q1.2.2 h2
      have e : fn10_commentPiece s p0 = fn10_commentPiece_c43 s p0 := by
        rw [fq10_commentPiece]
        rw [if_pos h1, if_neg h2]
      rw [e]
      exact i43 s p0  q2
  · have e : fn10_commentPiece s p0 = ((1 : Int32), s) := by
      rw [fq10_commentPiece]
      rw [if_neg h1]
    rw [e] <;> rfl
abbrev pr10_commentPiece : List am_V → List am_C → Prop := fun a w => ∃ (s : hs) (p0 : Int32), a = [.inr (.inl 0), .inl p0] ∧ w = (hm_w s) ∧ wp10_commentPiece s p0
noncomputable def fm10_commentPiece : am_M := fun a w => (fun (z : Int32 × hs) => (some (.inl (z.1)), (hm_w (z.2)), 0, 0)) (fn10_commentPiece (hm_st w 0) (am_i (am_an a 1)))
theorem fe10_commentPiece (s : hs) (p0 : Int32) : fm10_commentPiece [.inr (.inl 0), .inl p0] (hm_w s) = (some (.inl ((fn10_commentPiece s p0).1)), (hm_w ((fn10_commentPiece s p0).2)), 0, 0) := rfl
set_option maxRecDepth 100000 in
set_option maxHeartbeats 4000000 in
theorem rn10_commentPiece : ∀ (a : List am_V) (w : List am_C), pr10_commentPiece a w → ∃ nq, am_ev (am_mk kb10_commentPiece (fm10_commentPiece a w).2.2.1 (fm10_commentPiece a w).2.2.2 w.length) [43] nq (0, am_L0 a 2, [], w, 0, 0) = some ((fm10_commentPiece a w).1, (fm10_commentPiece a w).2.1) := by
  rintro a w ⟨s, p0, rfl, rfl, hp⟩
  rw [fe10_commentPiece s p0]
  exact am_lf_ev (re10_commentPiece s p0 hp)
theorem rl10_commentPiece : ∀ (a : List am_V) (w : List am_C), pr10_commentPiece a w → a.length ≤ 2 := by
  rintro a w ⟨s, p0, rfl, rfl, hp⟩
  exact Nat.le_of_ble_eq_true rfl
theorem pa10_commentPiece : ∀ a w, pr10_commentPiece a w → ∃ q a' ci fs r, a = .inr (.inl q) :: a' ∧ w[q]? = some (.inr (ci, fs)) ∧ hn_cl[ci]? = some r ∧ r.1 = hn_R10 := by
  rintro a w ⟨s, p0, rfl, rfl, hp⟩
  exact ⟨0, _, 10, _, _, rfl, rfl, rfl, rfl⟩
set_option maxRecDepth 100000 in
set_option maxHeartbeats 4000000 in
theorem km10_commentPiece {l : Launch} {E : (Nat → Prop) → State → Prop} {D : va_G} {ou : Nat → Nat} {ca : Nat → ClassId} (hE : am_EC E) : hg_Met l E D ou ca hy10_commentPiece prog_12_method_36_code 2 (some .int) 1 pr10_commentPiece fm10_commentPiece := by
  refine am_met (B := kb10_commentPiece) (cuts := [43]) (nt := 5) (by decide +kernel) rfl rfl (hg_tys_ok ca) ?_ (by decide) rl10_commentPiece ?_ rn10_commentPiece
  · exact fun t ht => List.mem_cons_of_mem _ (hg_arr t ht)
  · intro a w hp ad p e R s m args below meth c hR X hEs hnm
    have hR1 : 1 ≤ R.frames ∧ 40 ≤ R.locals := by rw [hR]; exact ⟨Nat.le_refl _, Nat.le_refl _⟩
    refine ⟨kd10_commentPiece_ok, fun index ci fi mode hq => kf10_ok X.2.2.2.2.1 (index, ci, fi, mode) (am_as_mem hq), fun index ci fs hq => (am_no hq).elim, fun x v hq => (am_no hq).elim, ?_, fun o t n f hq => (am_no hq).elim, rfl, rfl, by rw [hR]; exact Nat.le_refl _, by rw [hR]; exact Nat.le_refl _⟩
    intro pc sel n0 pre0 f0 hq
    have hz : ∀ q ∈ ki10_commentPiece, am_CK p l e R s m args below meth c D hn_cl (va_A (am_w ad ou ca w) s.heap.size) ou ca 2 q.1 q.2.2.1 q.2.2.2.1 q.2.2.2.2 := by
      refine am_allc (am_ck_V (n := 1) X hEs hE (km10_ch hE) (hg_good (gw_mem 1147 (by decide +kernel))) rfl (List.mem_cons_of_mem _ (gw_mem 76 (by decide +kernel))) (List.mem_cons_of_mem _ (gw_mem 1144 (by decide +kernel))) (List.mem_cons_of_mem _ (gw_mem 1146 (by decide +kernel))) (List.mem_cons_of_mem _ (gw_mem 21 (by decide +kernel))) pa10_ch (by decide +kernel) ⟨Nat.le_trans (by decide) hR1.1, Nat.le_trans (by decide) hR1.2⟩ (kd10_commentPiece_ok (2, .invokevirtual 114, 3) (List.mem_of_getElem? (i := 2) rfl))) (am_allc (am_ck_V (n := 1) X hEs hE (km10_ch hE) (hg_good (gw_mem 1147 (by decide +kernel))) rfl (List.mem_cons_of_mem _ (gw_mem 76 (by decide +kernel))) (List.mem_cons_of_mem _ (gw_mem 1144 (by decide +kernel))) (List.mem_cons_of_mem _ (gw_mem 1146 (by decide +kernel))) (List.mem_cons_of_mem _ (gw_mem 21 (by decide +kernel))) pa10_ch (by decide +kernel) ⟨Nat.le_trans (by decide) hR1.1, Nat.le_trans (by decide) hR1.2⟩ (kd10_commentPiece_ok (16, .invokevirtual 114, 3) (List.mem_of_getElem? (i := 11) rfl))) (am_allc (am_ck_V (n := 1) X hEs hE (km10_ch hE) (hg_good (gw_mem 1147 (by decide +kernel))) rfl (List.mem_cons_of_mem _ (gw_mem 76 (by decide +kernel))) (List.mem_cons_of_mem _ (gw_mem 1144 (by decide +kernel))) (List.mem_cons_of_mem _ (gw_mem 1146 (by decide +kernel))) (List.mem_cons_of_mem _ (gw_mem 21 (by decide +kernel))) pa10_ch (by decide +kernel) ⟨Nat.le_trans (by decide) hR1.1, Nat.le_trans (by decide) hR1.2⟩ (kd10_commentPiece_ok (28, .invokevirtual 114, 3) (List.mem_of_getElem? (i := 18) rfl))) (am_allc (am_ck_V (n := 1) X hEs hE (km10_go hE) (hg_good (gw_mem 1135 (by decide +kernel))) rfl (List.mem_cons_of_mem _ (gw_mem 76 (by decide +kernel))) (List.mem_cons_of_mem _ (gw_mem 1132 (by decide +kernel))) (List.mem_cons_of_mem _ (gw_mem 1134 (by decide +kernel))) (List.mem_cons_of_mem _ (gw_mem 18 (by decide +kernel))) pa10_go (by decide +kernel) ⟨Nat.le_trans (by decide) hR1.1, Nat.le_trans (by decide) hR1.2⟩ (kd10_commentPiece_ok (38, .invokevirtual 151, 3) (List.mem_of_getElem? (i := 23) rfl))) (am_allc (am_ck_V (n := 1) X hEs hE (km10_ch hE) (hg_good (gw_mem 1147 (by decide +kernel))) rfl (List.mem_cons_of_mem _ (gw_mem 76 (by decide +kernel))) (List.mem_cons_of_mem _ (gw_mem 1144 (by decide +kernel))) (List.mem_cons_of_mem _ (gw_mem 1146 (by decide +kernel))) (List.mem_cons_of_mem _ (gw_mem 21 (by decide +kernel))) pa10_ch (by decide +kernel) ⟨Nat.le_trans (by decide) hR1.1, Nat.le_trans (by decide) hR1.2⟩ (kd10_commentPiece_ok (47, .invokevirtual 114, 3) (List.mem_of_getElem? (i := 30) rfl))) (am_allc (am_ck_V (n := 1) X hEs hE (km10_ch hE) (hg_good (gw_mem 1147 (by decide +kernel))) rfl (List.mem_cons_of_mem _ (gw_mem 76 (by decide +kernel))) (List.mem_cons_of_mem _ (gw_mem 1144 (by decide +kernel))) (List.mem_cons_of_mem _ (gw_mem 1146 (by decide +kernel))) (List.mem_cons_of_mem _ (gw_mem 21 (by decide +kernel))) pa10_ch (by decide +kernel) ⟨Nat.le_trans (by decide) hR1.1, Nat.le_trans (by decide) hR1.2⟩ (kd10_commentPiece_ok (57, .invokevirtual 114, 3) (List.mem_of_getElem? (i := 36) rfl))) (am_all0))))))
    exact hz _ (am_as_mem hq)
noncomputable def ki10_piece : List (Nat × Option (List Nat) × Nat × (List am_V → List am_C → Prop) × am_M) := [(50, none, 2, pr10_textPiece, fm10_textPiece), (56, none, 2, pr10_tagPiece, fm10_tagPiece), (62, none, 2, pr10_valuePiece, fm10_valuePiece), (68, none, 2, pr10_titlePiece, fm10_titlePiece), (74, none, 2, pr10_commentPiece, fm10_commentPiece), (93, none, 3, pr10_insidePiece, fm10_insidePiece)]
noncomputable def kb10_piece : am_B := (kd10_piece, am_as kf10, hn_ty, fun _ => none, fun _ => none, am_as ki10_piece, fun _ => none, 5, 2, (some .int))
noncomputable def fn10_piece_c93 (s : hs) (u0 : Int32) (u1 : Int32) : Int32 × hs := ((fn10_insidePiece s u1 u0).1, (fn10_insidePiece s u1 u0).2)
def wp10_piece_c93 (s : hs) (u0 : Int32) (u1 : Int32) : Prop := (wp10_insidePiece s u1 u0)
set_option maxRecDepth 100000 in
set_option maxHeartbeats 4000000 in
theorem rc10_piece_93 (s : hs) (u0 : Int32) (u1 : Int32) (j1 : Option am_V) (g1 : am_loO 22 j1 = true) (hp : wp10_piece_c93 s u0 u1) : am_lf (am_mk kb10_piece 0 0 22) [93] (93, [some (.inr (.inl 0)), j1], [.inl u0, .inl u1, .inr (.inl 0)], (hm_w s), 0, 0) = some (some (.inl ((fn10_piece_c93 s u0 u1).1)), (hm_w ((fn10_piece_c93 s u0 u1).2))) := by
  unfold wp10_piece_c93 at hp
  refine am_lf_eq ?_
  generalize am_lf (am_mk kb10_piece 0 0 22) [93] = kt
  refine am_cx (pre := pr10_insidePiece) (f := fm10_insidePiece) (r := (some (.inl ((fn10_insidePiece s u1 u0).1)), (hm_w ((fn10_insidePiece s u1 u0).2)), 0, 0)) ?_ ?_ ?_ ?_
  · exact ⟨s, u1, u0, rfl, rfl, hp⟩
  · exact fe10_insidePiece s u1 u0
  · exact (am_ac rfl (am_ac g1 am_a0))
  have e : fn10_piece_c93 s u0 u1 = ((fn10_insidePiece s u1 u0).1, (fn10_insidePiece s u1 u0).2) := by
    rw [fn10_piece_c93]
  rw [e] <;> rfl
noncomputable def fn10_piece (s : hs) (p0 : Int32) : Int32 × hs := Classical.choose (⟨_, rfl⟩ : ∃ z : Int32 × hs, z = (if (hm_context s) = (0 : Int32) then ((fn10_textPiece s p0).1, (fn10_textPiece s p0).2) else (if (hm_context s) = (1 : Int32) then ((fn10_tagPiece s p0).1, (fn10_tagPiece s p0).2) else (if (hm_context s) = (2 : Int32) then ((fn10_valuePiece s p0).1, (fn10_valuePiece s p0).2) else (if (hm_context s) = (3 : Int32) then (if (hm_context s) = (4 : Int32) then (fn10_piece_c93 s (1 : Int32) p0) else (fn10_piece_c93 s (0 : Int32) p0)) else (if (hm_context s) = (4 : Int32) then (fn10_piece_c93 s (1 : Int32) p0) else (if (hm_context s) = (5 : Int32) then ((fn10_titlePiece s p0).1, (fn10_titlePiece s p0).2) else (if (hm_context s) = (6 : Int32) then ((fn10_commentPiece s p0).1, (fn10_commentPiece s p0).2) else (fn10_piece_c93 s (0 : Int32) p0)))))))))
theorem fq10_piece (s : hs) (p0 : Int32) : fn10_piece s p0 = (if (hm_context s) = (0 : Int32) then ((fn10_textPiece s p0).1, (fn10_textPiece s p0).2) else (if (hm_context s) = (1 : Int32) then ((fn10_tagPiece s p0).1, (fn10_tagPiece s p0).2) else (if (hm_context s) = (2 : Int32) then ((fn10_valuePiece s p0).1, (fn10_valuePiece s p0).2) else (if (hm_context s) = (3 : Int32) then (if (hm_context s) = (4 : Int32) then (fn10_piece_c93 s (1 : Int32) p0) else (fn10_piece_c93 s (0 : Int32) p0)) else (if (hm_context s) = (4 : Int32) then (fn10_piece_c93 s (1 : Int32) p0) else (if (hm_context s) = (5 : Int32) then ((fn10_titlePiece s p0).1, (fn10_titlePiece s p0).2) else (if (hm_context s) = (6 : Int32) then ((fn10_commentPiece s p0).1, (fn10_commentPiece s p0).2) else (fn10_piece_c93 s (0 : Int32) p0)))))))) := Classical.choose_spec (⟨_, rfl⟩ : ∃ z : Int32 × hs, z = (if (hm_context s) = (0 : Int32) then ((fn10_textPiece s p0).1, (fn10_textPiece s p0).2) else (if (hm_context s) = (1 : Int32) then ((fn10_tagPiece s p0).1, (fn10_tagPiece s p0).2) else (if (hm_context s) = (2 : Int32) then ((fn10_valuePiece s p0).1, (fn10_valuePiece s p0).2) else (if (hm_context s) = (3 : Int32) then (if (hm_context s) = (4 : Int32) then (fn10_piece_c93 s (1 : Int32) p0) else (fn10_piece_c93 s (0 : Int32) p0)) else (if (hm_context s) = (4 : Int32) then (fn10_piece_c93 s (1 : Int32) p0) else (if (hm_context s) = (5 : Int32) then ((fn10_titlePiece s p0).1, (fn10_titlePiece s p0).2) else (if (hm_context s) = (6 : Int32) then ((fn10_commentPiece s p0).1, (fn10_commentPiece s p0).2) else (fn10_piece_c93 s (0 : Int32) p0)))))))))
def wp10_piece (s : hs) (p0 : Int32) : Prop := (((hm_context s) = (0 : Int32) → (wp10_textPiece s p0)) ∧ (¬ (hm_context s) = (0 : Int32) → (((hm_context s) = (1 : Int32) → (wp10_tagPiece s p0)) ∧ (¬ (hm_context s) = (1 : Int32) → (((hm_context s) = (2 : Int32) → (wp10_valuePiece s p0)) ∧ (¬ (hm_context s) = (2 : Int32) → (((hm_context s) = (3 : Int32) → (((hm_context s) = (4 : Int32) → (wp10_piece_c93 s (1 : Int32) p0)) ∧ (¬ (hm_context s) = (4 : Int32) → (wp10_piece_c93 s (0 : Int32) p0)))) ∧ (¬ (hm_context s) = (3 : Int32) → (((hm_context s) = (4 : Int32) → (wp10_piece_c93 s (1 : Int32) p0)) ∧ (¬ (hm_context s) = (4 : Int32) → (((hm_context s) = (5 : Int32) → (wp10_titlePiece s p0)) ∧ (¬ (hm_context s) = (5 : Int32) → (((hm_context s) = (6 : Int32) → (wp10_commentPiece s p0)) ∧ (¬ (hm_context s) = (6 : Int32) → (wp10_piece_c93 s (0 : Int32) p0)))))))))))))))
set_option maxRecDepth 100000 in
set_option maxHeartbeats 4000000 in
theorem re10_piece (s : hs) (p0 : Int32) (hp : wp10_piece s p0) : am_lf (am_mk kb10_piece 0 0 22) [93] (0, am_L0 [.inr (.inl 0), .inl p0] 2, [], (hm_w s), 0, 0) = some (some (.inl ((fn10_piece s p0).1)), (hm_w ((fn10_piece s p0).2))) := by
  unfold wp10_piece at hp
  have i93 := @rc10_piece_93
  refine am_lf_eq ?_
  generalize am_lf (am_mk kb10_piece 0 0 22) [93] = kt at i93 ⊢
  refine am_if (c := (hm_context s) = (0 : Int32)) (fun h1 => ?_) (fun h1 => ?_)
  · have q1 := hp.1 h1
    refine am_cx (pre := pr10_textPiece) (f := fm10_textPiece) (r := (some (.inl ((fn10_textPiece s p0).1)), (hm_w ((fn10_textPiece s p0).2)), 0, 0)) ?_ ?_ ?_ ?_
    · exact ⟨s, p0, rfl, rfl, q1⟩
    · exact fe10_textPiece s p0
    · exact rfl
    have e : fn10_piece s p0 = ((fn10_textPiece s p0).1, (fn10_textPiece s p0).2) := by
      rw [fq10_piece]
      rw [if_pos h1]
    rw [e] <;> rfl
  · have q1 := hp.2 h1
    refine am_if (c := (hm_context s) = (1 : Int32)) (fun h2 => ?_) (fun h2 => ?_)
    · have q2 := q1.1 h2
      refine am_cx (pre := pr10_tagPiece) (f := fm10_tagPiece) (r := (some (.inl ((fn10_tagPiece s p0).1)), (hm_w ((fn10_tagPiece s p0).2)), 0, 0)) ?_ ?_ ?_ ?_
      · exact ⟨s, p0, rfl, rfl, q2⟩
      · exact fe10_tagPiece s p0
      · exact rfl
      have e : fn10_piece s p0 = ((fn10_tagPiece s p0).1, (fn10_tagPiece s p0).2) := by
        rw [fq10_piece]
        rw [if_neg h1, if_pos h2]
      rw [e] <;> rfl
    · have q2 := q1.2 h2
      refine am_if (c := (hm_context s) = (2 : Int32)) (fun h3 => ?_) (fun h3 => ?_)
      · have q3 := q2.1 h3
        refine am_cx (pre := pr10_valuePiece) (f := fm10_valuePiece) (r := (some (.inl ((fn10_valuePiece s p0).1)), (hm_w ((fn10_valuePiece s p0).2)), 0, 0)) ?_ ?_ ?_ ?_
        · exact ⟨s, p0, rfl, rfl, q3⟩
        · exact fe10_valuePiece s p0
        · exact rfl
        have e : fn10_piece s p0 = ((fn10_valuePiece s p0).1, (fn10_valuePiece s p0).2) := by
          rw [fq10_piece]
          rw [if_neg h1, if_neg h2, if_pos h3]
        rw [e] <;> rfl
      · have q3 := q2.2 h3
        refine am_if (c := (hm_context s) = (3 : Int32)) (fun h4 => ?_) (fun h4 => ?_)
        · have q4 := q3.1 h4
          refine am_if (c := (hm_context s) = (4 : Int32)) (fun h5 => ?_) (fun h5 => ?_)
          · have q5 := q4.1 h5
            have e : fn10_piece s p0 = fn10_piece_c93 s (1 : Int32) p0 := by
              rw [fq10_piece]
              rw [if_neg h1, if_neg h2, if_neg h3, if_pos h4, if_pos h5]
            rw [e]
            exact i93 s (1 : Int32) p0 _ rfl q5
          · have q5 := q4.2 h5
            have e : fn10_piece s p0 = fn10_piece_c93 s (0 : Int32) p0 := by
              rw [fq10_piece]
              rw [if_neg h1, if_neg h2, if_neg h3, if_pos h4, if_neg h5]
            rw [e]
            exact i93 s (0 : Int32) p0 _ rfl q5
        · have q4 := q3.2 h4
          refine am_if (c := (hm_context s) = (4 : Int32)) (fun h5 => ?_) (fun h5 => ?_)
          · have q5 := q4.1 h5
            refine am_ci (c := (hm_context s) = (4 : Int32)) (by assumption) ?_
            have e : fn10_piece s p0 = fn10_piece_c93 s (1 : Int32) p0 := by
              rw [fq10_piece]
              rw [if_neg h1, if_neg h2, if_neg h3, if_neg h4, if_pos h5]
            rw [e]
            exact i93 s (1 : Int32) p0 _ rfl q5
          · have q5 := q4.2 h5
            refine am_if (c := (hm_context s) = (5 : Int32)) (fun h6 => ?_) (fun h6 => ?_)
            · have q6 := q5.1 h6
              refine am_cx (pre := pr10_titlePiece) (f := fm10_titlePiece) (r := (some (.inl ((fn10_titlePiece s p0).1)), (hm_w ((fn10_titlePiece s p0).2)), 0, 0)) ?_ ?_ ?_ ?_
              · exact ⟨s, p0, rfl, rfl, q6⟩
              · exact fe10_titlePiece s p0
              · exact rfl
              have e : fn10_piece s p0 = ((fn10_titlePiece s p0).1, (fn10_titlePiece s p0).2) := by
                rw [fq10_piece]
                rw [if_neg h1, if_neg h2, if_neg h3, if_neg h4, if_neg h5, if_pos h6]
              rw [e] <;> rfl
            · have q6 := q5.2 h6
              refine am_if (c := (hm_context s) = (6 : Int32)) (fun h7 => ?_) (fun h7 => ?_)
              · have q7 := q6.1 h7
                refine am_cx (pre := pr10_commentPiece) (f := fm10_commentPiece) (r := (some (.inl ((fn10_commentPiece s p0).1)), (hm_w ((fn10_commentPiece s p0).2)), 0, 0)) ?_ ?_ ?_ ?_
                · exact ⟨s, p0, rfl, rfl, q7⟩
                · exact fe10_commentPiece s p0
                · exact rfl
                have e : fn10_piece s p0 = ((fn10_commentPiece s p0).1, (fn10_commentPiece s p0).2) := by
                  rw [fq10_piece]
                  rw [if_neg h1, if_neg h2, if_neg h3, if_neg h4, if_neg h5, if_neg h6, if_pos h7]
                rw [e] <;> rfl
              · have q7 := q6.2 h7
                refine am_cn (c := (hm_context s) = (4 : Int32)) (by assumption) ?_
                have e : fn10_piece s p0 = fn10_piece_c93 s (0 : Int32) p0 := by
                  rw [fq10_piece]
                  rw [if_neg h1, if_neg h2, if_neg h3, if_neg h4, if_neg h5, if_neg h6, if_neg h7]
                rw [e]
                exact i93 s (0 : Int32) p0 _ rfl q7
abbrev pr10_piece : List am_V → List am_C → Prop := fun a w => ∃ (s : hs) (p0 : Int32), a = [.inr (.inl 0), .inl p0] ∧ w = (hm_w s) ∧ wp10_piece s p0
noncomputable def fm10_piece : am_M := fun a w => (fun (z : Int32 × hs) => (some (.inl (z.1)), (hm_w (z.2)), 0, 0)) (fn10_piece (hm_st w 0) (am_i (am_an a 1)))
theorem fe10_piece (s : hs) (p0 : Int32) : fm10_piece [.inr (.inl 0), .inl p0] (hm_w s) = (some (.inl ((fn10_piece s p0).1)), (hm_w ((fn10_piece s p0).2)), 0, 0) := rfl
set_option maxRecDepth 100000 in
set_option maxHeartbeats 4000000 in
theorem rn10_piece : ∀ (a : List am_V) (w : List am_C), pr10_piece a w → ∃ nq, am_ev (am_mk kb10_piece (fm10_piece a w).2.2.1 (fm10_piece a w).2.2.2 w.length) [93] nq (0, am_L0 a 2, [], w, 0, 0) = some ((fm10_piece a w).1, (fm10_piece a w).2.1) := by
  rintro a w ⟨s, p0, rfl, rfl, hp⟩
  rw [fe10_piece s p0]
  exact am_lf_ev (re10_piece s p0 hp)
theorem rl10_piece : ∀ (a : List am_V) (w : List am_C), pr10_piece a w → a.length ≤ 2 := by
  rintro a w ⟨s, p0, rfl, rfl, hp⟩
  exact Nat.le_of_ble_eq_true rfl
theorem pa10_piece : ∀ a w, pr10_piece a w → ∃ q a' ci fs r, a = .inr (.inl q) :: a' ∧ w[q]? = some (.inr (ci, fs)) ∧ hn_cl[ci]? = some r ∧ r.1 = hn_R10 := by
  rintro a w ⟨s, p0, rfl, rfl, hp⟩
  exact ⟨0, _, 10, _, _, rfl, rfl, rfl, rfl⟩
set_option maxRecDepth 100000 in
set_option maxHeartbeats 4000000 in
theorem km10_piece {l : Launch} {E : (Nat → Prop) → State → Prop} {D : va_G} {ou : Nat → Nat} {ca : Nat → ClassId} (hE : am_EC E) : hg_Met l E D ou ca hy10_piece prog_12_method_37_code 2 (some .int) 6 pr10_piece fm10_piece := by
  refine am_met (B := kb10_piece) (cuts := [93]) (nt := 5) (by decide +kernel) rfl rfl (hg_tys_ok ca) ?_ (by decide) rl10_piece ?_ rn10_piece
  · exact fun t ht => List.mem_cons_of_mem _ (hg_arr t ht)
  · intro a w hp ad p e R s m args below meth c hR X hEs hnm
    have hR1 : 6 ≤ R.frames ∧ 240 ≤ R.locals := by rw [hR]; exact ⟨Nat.le_refl _, Nat.le_refl _⟩
    refine ⟨kd10_piece_ok, fun index ci fi mode hq => kf10_ok X.2.2.2.2.1 (index, ci, fi, mode) (am_as_mem hq), fun index ci fs hq => (am_no hq).elim, fun x v hq => (am_no hq).elim, ?_, fun o t n f hq => (am_no hq).elim, rfl, rfl, by rw [hR]; exact Nat.le_refl _, by rw [hR]; exact Nat.le_refl _⟩
    intro pc sel n0 pre0 f0 hq
    have hz : ∀ q ∈ ki10_piece, am_CK p l e R s m args below meth c D hn_cl (va_A (am_w ad ou ca w) s.heap.size) ou ca 2 q.1 q.2.2.1 q.2.2.2.1 q.2.2.2.2 := by
      refine am_allc (am_ck_V (n := 1) X hEs hE (km10_textPiece hE) (hg_good (gw_mem 1143 (by decide +kernel))) rfl (List.mem_cons_of_mem _ (gw_mem 76 (by decide +kernel))) (List.mem_cons_of_mem _ (gw_mem 1140 (by decide +kernel))) (List.mem_cons_of_mem _ (gw_mem 1142 (by decide +kernel))) (List.mem_cons_of_mem _ (gw_mem 20 (by decide +kernel))) pa10_textPiece (by decide +kernel) ⟨Nat.le_trans (by decide) hR1.1, Nat.le_trans (by decide) hR1.2⟩ (kd10_piece_ok (50, .invokevirtual 191, 3) (List.mem_of_getElem? (i := 5) rfl))) (am_allc (am_ck_V (n := 1) X hEs hE (km10_tagPiece hE) (hg_good (gw_mem 1188 (by decide +kernel))) rfl (List.mem_cons_of_mem _ (gw_mem 76 (by decide +kernel))) (List.mem_cons_of_mem _ (gw_mem 1185 (by decide +kernel))) (List.mem_cons_of_mem _ (gw_mem 1187 (by decide +kernel))) (List.mem_cons_of_mem _ (gw_mem 29 (by decide +kernel))) pa10_tagPiece (by decide +kernel) ⟨Nat.le_trans (by decide) hR1.1, Nat.le_trans (by decide) hR1.2⟩ (kd10_piece_ok (56, .invokevirtual 194, 3) (List.mem_of_getElem? (i := 9) rfl))) (am_allc (am_ck_V (n := 1) X hEs hE (km10_valuePiece hE) (hg_good (gw_mem 1204 (by decide +kernel))) rfl (List.mem_cons_of_mem _ (gw_mem 76 (by decide +kernel))) (List.mem_cons_of_mem _ (gw_mem 1201 (by decide +kernel))) (List.mem_cons_of_mem _ (gw_mem 1203 (by decide +kernel))) (List.mem_cons_of_mem _ (gw_mem 33 (by decide +kernel))) pa10_valuePiece (by decide +kernel) ⟨Nat.le_trans (by decide) hR1.1, Nat.le_trans (by decide) hR1.2⟩ (kd10_piece_ok (62, .invokevirtual 197, 3) (List.mem_of_getElem? (i := 13) rfl))) (am_allc (am_ck_V (n := 1) X hEs hE (km10_titlePiece hE) (hg_good (gw_mem 1224 (by decide +kernel))) rfl (List.mem_cons_of_mem _ (gw_mem 76 (by decide +kernel))) (List.mem_cons_of_mem _ (gw_mem 1221 (by decide +kernel))) (List.mem_cons_of_mem _ (gw_mem 1223 (by decide +kernel))) (List.mem_cons_of_mem _ (gw_mem 38 (by decide +kernel))) pa10_titlePiece (by decide +kernel) ⟨Nat.le_trans (by decide) hR1.1, Nat.le_trans (by decide) hR1.2⟩ (kd10_piece_ok (68, .invokevirtual 200, 3) (List.mem_of_getElem? (i := 17) rfl))) (am_allc (am_ck_V (n := 1) X hEs hE (km10_commentPiece hE) (hg_good (gw_mem 1228 (by decide +kernel))) rfl (List.mem_cons_of_mem _ (gw_mem 76 (by decide +kernel))) (List.mem_cons_of_mem _ (gw_mem 1225 (by decide +kernel))) (List.mem_cons_of_mem _ (gw_mem 1227 (by decide +kernel))) (List.mem_cons_of_mem _ (gw_mem 39 (by decide +kernel))) pa10_commentPiece (by decide +kernel) ⟨Nat.le_trans (by decide) hR1.1, Nat.le_trans (by decide) hR1.2⟩ (kd10_piece_ok (74, .invokevirtual 203, 3) (List.mem_of_getElem? (i := 21) rfl))) (am_allc (am_ck_V (n := 2) X hEs hE (km10_insidePiece hE) (hg_good (gw_mem 1232 (by decide +kernel))) rfl (List.mem_cons_of_mem _ (gw_mem 76 (by decide +kernel))) (List.mem_cons_of_mem _ (gw_mem 1229 (by decide +kernel))) (List.mem_cons_of_mem _ (gw_mem 1231 (by decide +kernel))) (List.mem_cons_of_mem _ (gw_mem 40 (by decide +kernel))) pa10_insidePiece (by decide +kernel) ⟨Nat.le_trans (by decide) hR1.1, Nat.le_trans (by decide) hR1.2⟩ (kd10_piece_ok (93, .invokevirtual 206, 3) (List.mem_of_getElem? (i := 32) rfl))) (am_all0))))))
    exact hz _ (am_as_mem hq)
noncomputable def ki10_state : List (Nat × Option (List Nat) × Nat × (List am_V → List am_C → Prop) × am_M) := []
noncomputable def kb10_state : am_B := (kd10_state, am_as kf10, hn_ty, fun _ => none, fun _ => none, am_as ki10_state, fun _ => none, 5, 1, (some .int))
noncomputable def fn10_state (s : hs) : Int32 := Classical.choose (⟨_, rfl⟩ : ∃ z : Int32, z = (((((hm_context s) + ((8 : Int32) * (hm_element s))) + ((32 : Int32) * (hm_kind s))) + ((128 : Int32) * (hm_part s))) + ((1024 : Int32) * (hm_quote s))))
theorem fq10_state (s : hs) : fn10_state s = (((((hm_context s) + ((8 : Int32) * (hm_element s))) + ((32 : Int32) * (hm_kind s))) + ((128 : Int32) * (hm_part s))) + ((1024 : Int32) * (hm_quote s))) := Classical.choose_spec (⟨_, rfl⟩ : ∃ z : Int32, z = (((((hm_context s) + ((8 : Int32) * (hm_element s))) + ((32 : Int32) * (hm_kind s))) + ((128 : Int32) * (hm_part s))) + ((1024 : Int32) * (hm_quote s))))
def wp10_state (s : hs) : Prop := True
set_option maxRecDepth 100000 in
set_option maxHeartbeats 4000000 in
theorem re10_state (s : hs) (hp : wp10_state s) : am_lf (am_mk kb10_state 0 0 22) [] (0, am_L0 [.inr (.inl 0)] 1, [], (hm_w s), 0, 0) = some (some (.inl (fn10_state s)), (hm_w s)) := by
  unfold wp10_state at hp
  refine am_lf_eq ?_
  generalize am_lf (am_mk kb10_state 0 0 22) [] = kt
  have e : fn10_state s = (((((hm_context s) + ((8 : Int32) * (hm_element s))) + ((32 : Int32) * (hm_kind s))) + ((128 : Int32) * (hm_part s))) + ((1024 : Int32) * (hm_quote s))) := by
    rw [fq10_state]
  rw [e] <;> rfl
abbrev pr10_state : List am_V → List am_C → Prop := fun a w => ∃ (s : hs), a = [.inr (.inl 0)] ∧ w = (hm_w s) ∧ wp10_state s
noncomputable def fm10_state : am_M := fun a w => (fun (z : Int32) => (some (.inl z), (hm_w (hm_st w 0)), 0, 0)) (fn10_state (hm_st w 0))
theorem fe10_state (s : hs) : fm10_state [.inr (.inl 0)] (hm_w s) = (some (.inl (fn10_state s)), (hm_w s), 0, 0) := rfl
set_option maxRecDepth 100000 in
set_option maxHeartbeats 4000000 in
theorem rn10_state : ∀ (a : List am_V) (w : List am_C), pr10_state a w → ∃ nq, am_ev (am_mk kb10_state (fm10_state a w).2.2.1 (fm10_state a w).2.2.2 w.length) [] nq (0, am_L0 a 1, [], w, 0, 0) = some ((fm10_state a w).1, (fm10_state a w).2.1) := by
  rintro a w ⟨s, rfl, rfl, hp⟩
  rw [fe10_state s]
  exact am_lf_ev (re10_state s hp)
theorem rl10_state : ∀ (a : List am_V) (w : List am_C), pr10_state a w → a.length ≤ 1 := by
  rintro a w ⟨s, rfl, rfl, hp⟩
  exact Nat.le_of_ble_eq_true rfl
theorem pa10_state : ∀ a w, pr10_state a w → ∃ q a' ci fs r, a = .inr (.inl q) :: a' ∧ w[q]? = some (.inr (ci, fs)) ∧ hn_cl[ci]? = some r ∧ r.1 = hn_R10 := by
  rintro a w ⟨s, rfl, rfl, hp⟩
  exact ⟨0, _, 10, _, _, rfl, rfl, rfl, rfl⟩
set_option maxRecDepth 100000 in
set_option maxHeartbeats 4000000 in
theorem km10_state {l : Launch} {E : (Nat → Prop) → State → Prop} {D : va_G} {ou : Nat → Nat} {ca : Nat → ClassId} (hE : am_EC E) : hg_Met l E D ou ca hy10_state prog_12_method_38_code 1 (some .int) 0 pr10_state fm10_state := by
  refine am_met (B := kb10_state) (cuts := []) (nt := 5) (by decide +kernel) rfl rfl (hg_tys_ok ca) ?_ (by decide) rl10_state ?_ rn10_state
  · exact fun t ht => List.mem_cons_of_mem _ (hg_arr t ht)
  · intro a w hp ad p e R s m args below meth c hR X hEs hnm
    have hR1 : 0 ≤ R.frames ∧ 0 ≤ R.locals := by rw [hR]; exact ⟨Nat.le_refl _, Nat.le_refl _⟩
    refine ⟨kd10_state_ok, fun index ci fi mode hq => kf10_ok X.2.2.2.2.1 (index, ci, fi, mode) (am_as_mem hq), fun index ci fs hq => (am_no hq).elim, fun x v hq => (am_no hq).elim, ?_, fun o t n f hq => (am_no hq).elim, rfl, rfl, by rw [hR]; exact Nat.le_refl _, by rw [hR]; exact Nat.le_refl _⟩
    intro pc sel n0 pre0 f0 hq
    exact (am_no hq).elim
noncomputable def ki10_restore : List (Nat × Option (List Nat) × Nat × (List am_V → List am_C → Prop) × am_M) := []
noncomputable def kb10_restore : am_B := (kd10_restore, am_as kf10, hn_ty, fun _ => none, fun _ => none, am_as ki10_restore, fun _ => none, 5, 2, none)
noncomputable def fn10_restore_c40 (s : hs) (v1 : Int32) : hs := (hu_quote s ((((v1 / (1024 : Int32))).toUInt32 % 65536).toInt32))
def wp10_restore_c40 (s : hs) (v1 : Int32) : Prop := (am_fit .char (.inl ((((v1 / (1024 : Int32))).toUInt32 % 65536).toInt32)) = true)
set_option maxRecDepth 100000 in
set_option maxHeartbeats 4000000 in
theorem rc10_restore_40 (s : hs) (v1 : Int32) (hp : wp10_restore_c40 s v1) : am_lf (am_mk kb10_restore 0 0 22) [8, 18, 28, 40] (40, [some (.inr (.inl 0)), some (.inl v1)], [], (hm_w s), 0, 0) = some (none, (hm_w (fn10_restore_c40 s v1))) := by
  unfold wp10_restore_c40 at hp
  refine am_lf_eq ?_
  generalize am_lf (am_mk kb10_restore 0 0 22) [8, 18, 28, 40] = kt
  refine am_ci (c := am_fit .char (.inl ((((v1 / (1024 : Int32))).toUInt32 % 65536).toInt32)) = true) hp ?_
  refine am_sp (w' := (hm_w (hu_quote s ((((v1 / (1024 : Int32))).toUInt32 % 65536).toInt32)))) (kp_R_0_quote s ((((v1 / (1024 : Int32))).toUInt32 % 65536).toInt32)) ?_
  have e : fn10_restore_c40 s v1 = (hu_quote s ((((v1 / (1024 : Int32))).toUInt32 % 65536).toInt32)) := by
    rw [fn10_restore_c40]
  rw [e] <;> rfl
noncomputable def fn10_restore_c28 (s : hs) (v1 : Int32) : hs := (fn10_restore_c40 (hu_part s ((v1 / (128 : Int32)) - (v1 / (128 : Int32)) / (8 : Int32) * (8 : Int32))) v1)
def wp10_restore_c28 (s : hs) (v1 : Int32) : Prop := (wp10_restore_c40 (hu_part s ((v1 / (128 : Int32)) - (v1 / (128 : Int32)) / (8 : Int32) * (8 : Int32))) v1)
set_option maxRecDepth 100000 in
set_option maxHeartbeats 4000000 in
theorem rc10_restore_28 (s : hs) (v1 : Int32) (hp : wp10_restore_c28 s v1) : am_lf (am_mk kb10_restore 0 0 22) [8, 18, 28, 40] (28, [some (.inr (.inl 0)), some (.inl v1)], [], (hm_w s), 0, 0) = some (none, (hm_w (fn10_restore_c28 s v1))) := by
  unfold wp10_restore_c28 at hp
  have i40 := @rc10_restore_40
  refine am_lf_eq ?_
  generalize am_lf (am_mk kb10_restore 0 0 22) [8, 18, 28, 40] = kt at i40 ⊢
  refine am_sp (w' := (hm_w (hu_part s ((v1 / (128 : Int32)) - (v1 / (128 : Int32)) / (8 : Int32) * (8 : Int32))))) (kp_R_0_part s ((v1 / (128 : Int32)) - (v1 / (128 : Int32)) / (8 : Int32) * (8 : Int32))) ?_
  have e : fn10_restore_c28 s v1 = fn10_restore_c40 (hu_part s ((v1 / (128 : Int32)) - (v1 / (128 : Int32)) / (8 : Int32) * (8 : Int32))) v1 := by
    rw [fn10_restore_c28]
  rw [e]
  exact i40 (hu_part s ((v1 / (128 : Int32)) - (v1 / (128 : Int32)) / (8 : Int32) * (8 : Int32))) v1  hp
noncomputable def fn10_restore_c18 (s : hs) (v1 : Int32) : hs := (fn10_restore_c28 (hu_kind s ((v1 / (32 : Int32)) - (v1 / (32 : Int32)) / (4 : Int32) * (4 : Int32))) v1)
def wp10_restore_c18 (s : hs) (v1 : Int32) : Prop := (wp10_restore_c28 (hu_kind s ((v1 / (32 : Int32)) - (v1 / (32 : Int32)) / (4 : Int32) * (4 : Int32))) v1)
set_option maxRecDepth 100000 in
set_option maxHeartbeats 4000000 in
theorem rc10_restore_18 (s : hs) (v1 : Int32) (hp : wp10_restore_c18 s v1) : am_lf (am_mk kb10_restore 0 0 22) [8, 18, 28, 40] (18, [some (.inr (.inl 0)), some (.inl v1)], [], (hm_w s), 0, 0) = some (none, (hm_w (fn10_restore_c18 s v1))) := by
  unfold wp10_restore_c18 at hp
  have i28 := @rc10_restore_28
  refine am_lf_eq ?_
  generalize am_lf (am_mk kb10_restore 0 0 22) [8, 18, 28, 40] = kt at i28 ⊢
  refine am_sp (w' := (hm_w (hu_kind s ((v1 / (32 : Int32)) - (v1 / (32 : Int32)) / (4 : Int32) * (4 : Int32))))) (kp_R_0_kind s ((v1 / (32 : Int32)) - (v1 / (32 : Int32)) / (4 : Int32) * (4 : Int32))) ?_
  have e : fn10_restore_c18 s v1 = fn10_restore_c28 (hu_kind s ((v1 / (32 : Int32)) - (v1 / (32 : Int32)) / (4 : Int32) * (4 : Int32))) v1 := by
    rw [fn10_restore_c18]
  rw [e]
  exact i28 (hu_kind s ((v1 / (32 : Int32)) - (v1 / (32 : Int32)) / (4 : Int32) * (4 : Int32))) v1  hp
noncomputable def fn10_restore_c8 (s : hs) (v1 : Int32) : hs := (fn10_restore_c18 (hu_element s ((v1 / (8 : Int32)) - (v1 / (8 : Int32)) / (4 : Int32) * (4 : Int32))) v1)
def wp10_restore_c8 (s : hs) (v1 : Int32) : Prop := (wp10_restore_c18 (hu_element s ((v1 / (8 : Int32)) - (v1 / (8 : Int32)) / (4 : Int32) * (4 : Int32))) v1)
set_option maxRecDepth 100000 in
set_option maxHeartbeats 4000000 in
theorem rc10_restore_8 (s : hs) (v1 : Int32) (hp : wp10_restore_c8 s v1) : am_lf (am_mk kb10_restore 0 0 22) [8, 18, 28, 40] (8, [some (.inr (.inl 0)), some (.inl v1)], [], (hm_w s), 0, 0) = some (none, (hm_w (fn10_restore_c8 s v1))) := by
  unfold wp10_restore_c8 at hp
  have i18 := @rc10_restore_18
  refine am_lf_eq ?_
  generalize am_lf (am_mk kb10_restore 0 0 22) [8, 18, 28, 40] = kt at i18 ⊢
  refine am_sp (w' := (hm_w (hu_element s ((v1 / (8 : Int32)) - (v1 / (8 : Int32)) / (4 : Int32) * (4 : Int32))))) (kp_R_0_element s ((v1 / (8 : Int32)) - (v1 / (8 : Int32)) / (4 : Int32) * (4 : Int32))) ?_
  have e : fn10_restore_c8 s v1 = fn10_restore_c18 (hu_element s ((v1 / (8 : Int32)) - (v1 / (8 : Int32)) / (4 : Int32) * (4 : Int32))) v1 := by
    rw [fn10_restore_c8]
  rw [e]
  exact i18 (hu_element s ((v1 / (8 : Int32)) - (v1 / (8 : Int32)) / (4 : Int32) * (4 : Int32))) v1  hp
noncomputable def fn10_restore (s : hs) (p0 : Int32) : hs := Classical.choose (⟨_, rfl⟩ : ∃ z : hs, z = (fn10_restore_c8 (hu_context s (p0 - p0 / (8 : Int32) * (8 : Int32))) p0))
theorem fq10_restore (s : hs) (p0 : Int32) : fn10_restore s p0 = (fn10_restore_c8 (hu_context s (p0 - p0 / (8 : Int32) * (8 : Int32))) p0) := Classical.choose_spec (⟨_, rfl⟩ : ∃ z : hs, z = (fn10_restore_c8 (hu_context s (p0 - p0 / (8 : Int32) * (8 : Int32))) p0))
def wp10_restore (s : hs) (p0 : Int32) : Prop := (wp10_restore_c8 (hu_context s (p0 - p0 / (8 : Int32) * (8 : Int32))) p0)
set_option maxRecDepth 100000 in
set_option maxHeartbeats 4000000 in
theorem re10_restore (s : hs) (p0 : Int32) (hp : wp10_restore s p0) : am_lf (am_mk kb10_restore 0 0 22) [8, 18, 28, 40] (0, am_L0 [.inr (.inl 0), .inl p0] 2, [], (hm_w s), 0, 0) = some (none, (hm_w (fn10_restore s p0))) := by
  unfold wp10_restore at hp
  have i8 := @rc10_restore_8
  refine am_lf_eq ?_
  generalize am_lf (am_mk kb10_restore 0 0 22) [8, 18, 28, 40] = kt at i8 ⊢
  refine am_sp (w' := (hm_w (hu_context s (p0 - p0 / (8 : Int32) * (8 : Int32))))) (kp_R_0_context s (p0 - p0 / (8 : Int32) * (8 : Int32))) ?_
  have e : fn10_restore s p0 = fn10_restore_c8 (hu_context s (p0 - p0 / (8 : Int32) * (8 : Int32))) p0 := by
    rw [fq10_restore]
  rw [e]
  exact i8 (hu_context s (p0 - p0 / (8 : Int32) * (8 : Int32))) p0  hp
abbrev pr10_restore : List am_V → List am_C → Prop := fun a w => ∃ (s : hs) (p0 : Int32), a = [.inr (.inl 0), .inl p0] ∧ w = (hm_w s) ∧ wp10_restore s p0
noncomputable def fm10_restore : am_M := fun a w => (fun (z : hs) => (none, (hm_w z), 0, 0)) (fn10_restore (hm_st w 0) (am_i (am_an a 1)))
theorem fe10_restore (s : hs) (p0 : Int32) : fm10_restore [.inr (.inl 0), .inl p0] (hm_w s) = (none, (hm_w (fn10_restore s p0)), 0, 0) := rfl
set_option maxRecDepth 100000 in
set_option maxHeartbeats 4000000 in
theorem rn10_restore : ∀ (a : List am_V) (w : List am_C), pr10_restore a w → ∃ nq, am_ev (am_mk kb10_restore (fm10_restore a w).2.2.1 (fm10_restore a w).2.2.2 w.length) [8, 18, 28, 40] nq (0, am_L0 a 2, [], w, 0, 0) = some ((fm10_restore a w).1, (fm10_restore a w).2.1) := by
  rintro a w ⟨s, p0, rfl, rfl, hp⟩
  rw [fe10_restore s p0]
  exact am_lf_ev (re10_restore s p0 hp)
theorem rl10_restore : ∀ (a : List am_V) (w : List am_C), pr10_restore a w → a.length ≤ 2 := by
  rintro a w ⟨s, p0, rfl, rfl, hp⟩
  exact Nat.le_of_ble_eq_true rfl
theorem pa10_restore : ∀ a w, pr10_restore a w → ∃ q a' ci fs r, a = .inr (.inl q) :: a' ∧ w[q]? = some (.inr (ci, fs)) ∧ hn_cl[ci]? = some r ∧ r.1 = hn_R10 := by
  rintro a w ⟨s, p0, rfl, rfl, hp⟩
  exact ⟨0, _, 10, _, _, rfl, rfl, rfl, rfl⟩
set_option maxRecDepth 100000 in
set_option maxHeartbeats 4000000 in
theorem km10_restore {l : Launch} {E : (Nat → Prop) → State → Prop} {D : va_G} {ou : Nat → Nat} {ca : Nat → ClassId} (hE : am_EC E) : hg_Met l E D ou ca hy10_restore prog_12_method_39_code 2 none 0 pr10_restore fm10_restore := by
  refine am_met (B := kb10_restore) (cuts := [8, 18, 28, 40]) (nt := 5) (by decide +kernel) rfl rfl (hg_tys_ok ca) ?_ (by decide) rl10_restore ?_ rn10_restore
  · exact fun t ht => List.mem_cons_of_mem _ (hg_arr t ht)
  · intro a w hp ad p e R s m args below meth c hR X hEs hnm
    have hR1 : 0 ≤ R.frames ∧ 0 ≤ R.locals := by rw [hR]; exact ⟨Nat.le_refl _, Nat.le_refl _⟩
    refine ⟨kd10_restore_ok, fun index ci fi mode hq => kf10_ok X.2.2.2.2.1 (index, ci, fi, mode) (am_as_mem hq), fun index ci fs hq => (am_no hq).elim, fun x v hq => (am_no hq).elim, ?_, fun o t n f hq => (am_no hq).elim, rfl, rfl, by rw [hR]; exact Nat.le_refl _, by rw [hR]; exact Nat.le_refl _⟩
    intro pc sel n0 pre0 f0 hq
    exact (am_no hq).elim
noncomputable def ki10_holeContext : List (Nat × Option (List Nat) × Nat × (List am_V → List am_C → Prop) × am_M) := []
noncomputable def kb10_holeContext : am_B := (kd10_holeContext, am_as kf10, hn_ty, fun _ => none, fun _ => none, am_as ki10_holeContext, fun _ => none, 5, 2, (some .int))
noncomputable def fn10_holeContext_c80 (s : hs) (u0 : Int32) : Int32 := (u0 + (hm_part s))
def wp10_holeContext_c80 (s : hs) (u0 : Int32) : Prop := True
set_option maxRecDepth 100000 in
set_option maxHeartbeats 4000000 in
theorem rc10_holeContext_80 (s : hs) (u0 : Int32) (j1 : Option am_V) (g1 : am_loO 22 j1 = true) (hp : wp10_holeContext_c80 s u0) : am_lf (am_mk kb10_holeContext 0 0 22) [33, 38, 51, 80, 129] (80, [some (.inr (.inl 0)), j1], [.inl u0], (hm_w s), 0, 0) = some (some (.inl (fn10_holeContext_c80 s u0)), (hm_w s)) := by
  unfold wp10_holeContext_c80 at hp
  refine am_lf_eq ?_
  generalize am_lf (am_mk kb10_holeContext 0 0 22) [33, 38, 51, 80, 129] = kt
  have e : fn10_holeContext_c80 s u0 = (u0 + (hm_part s)) := by
    rw [fn10_holeContext_c80]
  rw [e] <;> rfl
noncomputable def fn10_holeContext_c129 (s : hs) (u0 : Int32) : Int32 := (u0 + (hm_part s))
def wp10_holeContext_c129 (s : hs) (u0 : Int32) : Prop := True
set_option maxRecDepth 100000 in
set_option maxHeartbeats 4000000 in
theorem rc10_holeContext_129 (s : hs) (u0 : Int32) (j1 : Option am_V) (g1 : am_loO 22 j1 = true) (hp : wp10_holeContext_c129 s u0) : am_lf (am_mk kb10_holeContext 0 0 22) [33, 38, 51, 80, 129] (129, [some (.inr (.inl 0)), j1], [.inl u0], (hm_w s), 0, 0) = some (some (.inl (fn10_holeContext_c129 s u0)), (hm_w s)) := by
  unfold wp10_holeContext_c129 at hp
  refine am_lf_eq ?_
  generalize am_lf (am_mk kb10_holeContext 0 0 22) [33, 38, 51, 80, 129] = kt
  have e : fn10_holeContext_c129 s u0 = (u0 + (hm_part s)) := by
    rw [fn10_holeContext_c129]
  rw [e] <;> rfl
noncomputable def fn10_holeContext_c51 (s : hs) (v1 : Int32) : Int32 := (if (hm_part s) ≤ (2 : Int32) then (if v1 = 0 then (if (hm_kind s) = 0 then (1 : Int32) else (if (hm_kind s) = (1 : Int32) then ((2 : Int32) + (hm_part s)) else (if (hm_kind s) = (2 : Int32) then (fn10_holeContext_c129 s (24 : Int32)) else (fn10_holeContext_c129 s (28 : Int32))))) else (if (hm_context s) = (3 : Int32) then (fn10_holeContext_c80 s (8 : Int32)) else (fn10_holeContext_c80 s (12 : Int32)))) else (-1 : Int32))
def wp10_holeContext_c51 (s : hs) (v1 : Int32) : Prop := (((hm_part s) ≤ (2 : Int32) → ((v1 = 0 → (((hm_kind s) = 0 → True) ∧ (¬ (hm_kind s) = 0 → (((hm_kind s) = (1 : Int32) → True) ∧ (¬ (hm_kind s) = (1 : Int32) → (((hm_kind s) = (2 : Int32) → (wp10_holeContext_c129 s (24 : Int32))) ∧ (¬ (hm_kind s) = (2 : Int32) → (wp10_holeContext_c129 s (28 : Int32))))))))) ∧ (¬ v1 = 0 → (((hm_context s) = (3 : Int32) → (wp10_holeContext_c80 s (8 : Int32))) ∧ (¬ (hm_context s) = (3 : Int32) → (wp10_holeContext_c80 s (12 : Int32))))))) ∧ (¬ (hm_part s) ≤ (2 : Int32) → True))
set_option maxRecDepth 100000 in
set_option maxHeartbeats 4000000 in
theorem rc10_holeContext_51 (s : hs) (v1 : Int32) (hp : wp10_holeContext_c51 s v1) : am_lf (am_mk kb10_holeContext 0 0 22) [33, 38, 51, 80, 129] (51, [some (.inr (.inl 0)), some (.inl v1)], [], (hm_w s), 0, 0) = some (some (.inl (fn10_holeContext_c51 s v1)), (hm_w s)) := by
  unfold wp10_holeContext_c51 at hp
  have i80 := @rc10_holeContext_80
  have i129 := @rc10_holeContext_129
  refine am_lf_eq ?_
  generalize am_lf (am_mk kb10_holeContext 0 0 22) [33, 38, 51, 80, 129] = kt at i80 i129 ⊢
  refine am_if (c := (hm_part s) ≤ (2 : Int32)) (fun h1 => ?_) (fun h1 => ?_)
  · have q1 := hp.1 h1
    refine am_if (c := v1 = 0) (fun h2 => ?_) (fun h2 => ?_)
    · have q2 := q1.1 h2
      refine am_if (c := (hm_kind s) = 0) (fun h3 => ?_) (fun h3 => ?_)
      · have e : fn10_holeContext_c51 s v1 = (1 : Int32) := by
          rw [fn10_holeContext_c51]
          rw [if_pos h1, if_pos h2, if_pos h3]
        rw [e] <;> rfl
      · have q3 := q2.2 h3
        refine am_if (c := (hm_kind s) = (1 : Int32)) (fun h4 => ?_) (fun h4 => ?_)
        · have e : fn10_holeContext_c51 s v1 = ((2 : Int32) + (hm_part s)) := by
            rw [fn10_holeContext_c51]
            rw [if_pos h1, if_pos h2, if_neg h3, if_pos h4]
          rw [e] <;> rfl
        · have q4 := q3.2 h4
          refine am_if (c := (hm_kind s) = (2 : Int32)) (fun h5 => ?_) (fun h5 => ?_)
          · have q5 := q4.1 h5
            have e : fn10_holeContext_c51 s v1 = fn10_holeContext_c129 s (24 : Int32) := by
              rw [fn10_holeContext_c51]
              rw [if_pos h1, if_pos h2, if_neg h3, if_neg h4, if_pos h5]
            rw [e]
            exact i129 s (24 : Int32) _ rfl q5
          · have q5 := q4.2 h5
            have e : fn10_holeContext_c51 s v1 = fn10_holeContext_c129 s (28 : Int32) := by
              rw [fn10_holeContext_c51]
              rw [if_pos h1, if_pos h2, if_neg h3, if_neg h4, if_neg h5]
            rw [e]
            exact i129 s (28 : Int32) _ rfl q5
    · have q2 := q1.2 h2
      refine am_if (c := (hm_context s) = (3 : Int32)) (fun h3 => ?_) (fun h3 => ?_)
      · have q3 := q2.1 h3
        have e : fn10_holeContext_c51 s v1 = fn10_holeContext_c80 s (8 : Int32) := by
          rw [fn10_holeContext_c51]
          rw [if_pos h1, if_neg h2, if_pos h3]
        rw [e]
        exact i80 s (8 : Int32) _ rfl q3
      · have q3 := q2.2 h3
        have e : fn10_holeContext_c51 s v1 = fn10_holeContext_c80 s (12 : Int32) := by
          rw [fn10_holeContext_c51]
          rw [if_pos h1, if_neg h2, if_neg h3]
        rw [e]
        exact i80 s (12 : Int32) _ rfl q3
  · have e : fn10_holeContext_c51 s v1 = (-1 : Int32) := by
      rw [fn10_holeContext_c51]
      rw [if_neg h1]
    rw [e] <;> rfl
noncomputable def fn10_holeContext_c38 (s : hs) (u0 : Int32) : Int32 := (if (hm_context s) = (2 : Int32) then (fn10_holeContext_c51 s u0) else (if u0 = 0 then (-1 : Int32) else (fn10_holeContext_c51 s u0)))
def wp10_holeContext_c38 (s : hs) (u0 : Int32) : Prop := (((hm_context s) = (2 : Int32) → (wp10_holeContext_c51 s u0)) ∧ (¬ (hm_context s) = (2 : Int32) → ((u0 = 0 → True) ∧ (¬ u0 = 0 → (wp10_holeContext_c51 s u0)))))
set_option maxRecDepth 100000 in
set_option maxHeartbeats 4000000 in
theorem rc10_holeContext_38 (s : hs) (u0 : Int32) (j1 : Option am_V) (g1 : am_loO 22 j1 = true) (hp : wp10_holeContext_c38 s u0) : am_lf (am_mk kb10_holeContext 0 0 22) [33, 38, 51, 80, 129] (38, [some (.inr (.inl 0)), j1], [.inl u0], (hm_w s), 0, 0) = some (some (.inl (fn10_holeContext_c38 s u0)), (hm_w s)) := by
  unfold wp10_holeContext_c38 at hp
  have i51 := @rc10_holeContext_51
  refine am_lf_eq ?_
  generalize am_lf (am_mk kb10_holeContext 0 0 22) [33, 38, 51, 80, 129] = kt at i51 ⊢
  refine am_if (c := (hm_context s) = (2 : Int32)) (fun h1 => ?_) (fun h1 => ?_)
  · have q1 := hp.1 h1
    have e : fn10_holeContext_c38 s u0 = fn10_holeContext_c51 s u0 := by
      rw [fn10_holeContext_c38]
      rw [if_pos h1]
    rw [e]
    exact i51 s u0  q1
  · have q1 := hp.2 h1
    refine am_if (c := u0 = 0) (fun h2 => ?_) (fun h2 => ?_)
    · have e : fn10_holeContext_c38 s u0 = (-1 : Int32) := by
        rw [fn10_holeContext_c38]
        rw [if_neg h1, if_pos h2]
      rw [e] <;> rfl
    · have q2 := q1.2 h2
      have e : fn10_holeContext_c38 s u0 = fn10_holeContext_c51 s u0 := by
        rw [fn10_holeContext_c38]
        rw [if_neg h1, if_neg h2]
      rw [e]
      exact i51 s u0  q2
noncomputable def fn10_holeContext_c33 (s : hs) : Int32 := (fn10_holeContext_c38 s (1 : Int32))
def wp10_holeContext_c33 (s : hs) : Prop := (wp10_holeContext_c38 s (1 : Int32))
set_option maxRecDepth 100000 in
set_option maxHeartbeats 4000000 in
theorem rc10_holeContext_33 (s : hs) (j1 : Option am_V) (g1 : am_loO 22 j1 = true) (hp : wp10_holeContext_c33 s) : am_lf (am_mk kb10_holeContext 0 0 22) [33, 38, 51, 80, 129] (33, [some (.inr (.inl 0)), j1], [], (hm_w s), 0, 0) = some (some (.inl (fn10_holeContext_c33 s)), (hm_w s)) := by
  unfold wp10_holeContext_c33 at hp
  have i38 := @rc10_holeContext_38
  refine am_lf_eq ?_
  generalize am_lf (am_mk kb10_holeContext 0 0 22) [33, 38, 51, 80, 129] = kt at i38 ⊢
  have e : fn10_holeContext_c33 s = fn10_holeContext_c38 s (1 : Int32) := by
    rw [fn10_holeContext_c33]
  rw [e]
  exact i38 s (1 : Int32) _ g1 hp
noncomputable def fn10_holeContext (s : hs) : Int32 := Classical.choose (⟨_, rfl⟩ : ∃ z : Int32, z = (if (hm_context s) = 0 then (0 : Int32) else (if (hm_context s) = (5 : Int32) then (0 : Int32) else (if (hm_context s) = (3 : Int32) then (fn10_holeContext_c33 s) else (if (hm_context s) = (4 : Int32) then (fn10_holeContext_c33 s) else (fn10_holeContext_c38 s (0 : Int32)))))))
theorem fq10_holeContext (s : hs) : fn10_holeContext s = (if (hm_context s) = 0 then (0 : Int32) else (if (hm_context s) = (5 : Int32) then (0 : Int32) else (if (hm_context s) = (3 : Int32) then (fn10_holeContext_c33 s) else (if (hm_context s) = (4 : Int32) then (fn10_holeContext_c33 s) else (fn10_holeContext_c38 s (0 : Int32)))))) := Classical.choose_spec (⟨_, rfl⟩ : ∃ z : Int32, z = (if (hm_context s) = 0 then (0 : Int32) else (if (hm_context s) = (5 : Int32) then (0 : Int32) else (if (hm_context s) = (3 : Int32) then (fn10_holeContext_c33 s) else (if (hm_context s) = (4 : Int32) then (fn10_holeContext_c33 s) else (fn10_holeContext_c38 s (0 : Int32)))))))
def wp10_holeContext (s : hs) : Prop := (((hm_context s) = 0 → True) ∧ (¬ (hm_context s) = 0 → (((hm_context s) = (5 : Int32) → True) ∧ (¬ (hm_context s) = (5 : Int32) → (((hm_context s) = (3 : Int32) → (wp10_holeContext_c33 s)) ∧ (¬ (hm_context s) = (3 : Int32) → (((hm_context s) = (4 : Int32) → (wp10_holeContext_c33 s)) ∧ (¬ (hm_context s) = (4 : Int32) → (wp10_holeContext_c38 s (0 : Int32))))))))))
set_option maxRecDepth 100000 in
set_option maxHeartbeats 4000000 in
theorem re10_holeContext (s : hs) (hp : wp10_holeContext s) : am_lf (am_mk kb10_holeContext 0 0 22) [33, 38, 51, 80, 129] (0, am_L0 [.inr (.inl 0)] 2, [], (hm_w s), 0, 0) = some (some (.inl (fn10_holeContext s)), (hm_w s)) := by
  unfold wp10_holeContext at hp
  have i33 := @rc10_holeContext_33
  have i38 := @rc10_holeContext_38
  refine am_lf_eq ?_
  generalize am_lf (am_mk kb10_holeContext 0 0 22) [33, 38, 51, 80, 129] = kt at i33 i38 ⊢
  refine am_if (c := (hm_context s) = 0) (fun h1 => ?_) (fun h1 => ?_)
  · have e : fn10_holeContext s = (0 : Int32) := by
      rw [fq10_holeContext]
      rw [if_pos h1]
    rw [e] <;> rfl
  · have q1 := hp.2 h1
    refine am_if (c := (hm_context s) = (5 : Int32)) (fun h2 => ?_) (fun h2 => ?_)
    · have e : fn10_holeContext s = (0 : Int32) := by
        rw [fq10_holeContext]
        rw [if_neg h1, if_pos h2]
      rw [e] <;> rfl
    · have q2 := q1.2 h2
      refine am_if (c := (hm_context s) = (3 : Int32)) (fun h3 => ?_) (fun h3 => ?_)
      · have q3 := q2.1 h3
        have e : fn10_holeContext s = fn10_holeContext_c33 s := by
          rw [fq10_holeContext]
          rw [if_neg h1, if_neg h2, if_pos h3]
        rw [e]
        exact i33 s _ rfl q3
      · have q3 := q2.2 h3
        refine am_if (c := (hm_context s) = (4 : Int32)) (fun h4 => ?_) (fun h4 => ?_)
        · have q4 := q3.1 h4
          have e : fn10_holeContext s = fn10_holeContext_c33 s := by
            rw [fq10_holeContext]
            rw [if_neg h1, if_neg h2, if_neg h3, if_pos h4]
          rw [e]
          exact i33 s _ rfl q4
        · have q4 := q3.2 h4
          have e : fn10_holeContext s = fn10_holeContext_c38 s (0 : Int32) := by
            rw [fq10_holeContext]
            rw [if_neg h1, if_neg h2, if_neg h3, if_neg h4]
          rw [e]
          exact i38 s (0 : Int32) _ rfl q4
abbrev pr10_holeContext : List am_V → List am_C → Prop := fun a w => ∃ (s : hs), a = [.inr (.inl 0)] ∧ w = (hm_w s) ∧ wp10_holeContext s
noncomputable def fm10_holeContext : am_M := fun a w => (fun (z : Int32) => (some (.inl z), (hm_w (hm_st w 0)), 0, 0)) (fn10_holeContext (hm_st w 0))
theorem fe10_holeContext (s : hs) : fm10_holeContext [.inr (.inl 0)] (hm_w s) = (some (.inl (fn10_holeContext s)), (hm_w s), 0, 0) := rfl
set_option maxRecDepth 100000 in
set_option maxHeartbeats 4000000 in
theorem rn10_holeContext : ∀ (a : List am_V) (w : List am_C), pr10_holeContext a w → ∃ nq, am_ev (am_mk kb10_holeContext (fm10_holeContext a w).2.2.1 (fm10_holeContext a w).2.2.2 w.length) [33, 38, 51, 80, 129] nq (0, am_L0 a 2, [], w, 0, 0) = some ((fm10_holeContext a w).1, (fm10_holeContext a w).2.1) := by
  rintro a w ⟨s, rfl, rfl, hp⟩
  rw [fe10_holeContext s]
  exact am_lf_ev (re10_holeContext s hp)
theorem rl10_holeContext : ∀ (a : List am_V) (w : List am_C), pr10_holeContext a w → a.length ≤ 2 := by
  rintro a w ⟨s, rfl, rfl, hp⟩
  exact Nat.le_of_ble_eq_true rfl
theorem pa10_holeContext : ∀ a w, pr10_holeContext a w → ∃ q a' ci fs r, a = .inr (.inl q) :: a' ∧ w[q]? = some (.inr (ci, fs)) ∧ hn_cl[ci]? = some r ∧ r.1 = hn_R10 := by
  rintro a w ⟨s, rfl, rfl, hp⟩
  exact ⟨0, _, 10, _, _, rfl, rfl, rfl, rfl⟩
set_option maxRecDepth 100000 in
set_option maxHeartbeats 4000000 in
theorem km10_holeContext {l : Launch} {E : (Nat → Prop) → State → Prop} {D : va_G} {ou : Nat → Nat} {ca : Nat → ClassId} (hE : am_EC E) : hg_Met l E D ou ca hy10_holeContext prog_12_method_40_code 2 (some .int) 0 pr10_holeContext fm10_holeContext := by
  refine am_met (B := kb10_holeContext) (cuts := [33, 38, 51, 80, 129]) (nt := 5) (by decide +kernel) rfl rfl (hg_tys_ok ca) ?_ (by decide) rl10_holeContext ?_ rn10_holeContext
  · exact fun t ht => List.mem_cons_of_mem _ (hg_arr t ht)
  · intro a w hp ad p e R s m args below meth c hR X hEs hnm
    have hR1 : 0 ≤ R.frames ∧ 0 ≤ R.locals := by rw [hR]; exact ⟨Nat.le_refl _, Nat.le_refl _⟩
    refine ⟨kd10_holeContext_ok, fun index ci fi mode hq => kf10_ok X.2.2.2.2.1 (index, ci, fi, mode) (am_as_mem hq), fun index ci fs hq => (am_no hq).elim, fun x v hq => (am_no hq).elim, ?_, fun o t n f hq => (am_no hq).elim, rfl, rfl, by rw [hR]; exact Nat.le_refl _, by rw [hR]; exact Nat.le_refl _⟩
    intro pc sel n0 pre0 f0 hq
    exact (am_no hq).elim
