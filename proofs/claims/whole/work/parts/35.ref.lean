theorem hm_fn_w (F : hs → List Int32 → Int32 × hs) (X : hs) (is : List Int32) : hm_fn F (.inr (.inl 0) :: is.map Sum.inl) (hm_w X) = (some (.inl (F X is).1), hm_w (F X is).2, 0, 0) := by
  have e : (((.inr (.inl 0) : am_V) :: is.map Sum.inl).tail.map am_i) = is := by
    induction is with
    | nil => rfl
    | cons a r ih => simpa [am_i] using ih
  unfold hm_fn
  rw [e, hm_st_w]
noncomputable def ki10_putPlain : List (Nat × Option (List Nat) × Nat × (List am_V → List am_C → Prop) × am_M) := [(17, none, 6, pr10_put5, fm10_put5), (39, none, 6, pr10_put5, fm10_put5), (61, none, 6, pr10_put5, fm10_put5), (84, none, 6, pr10_put5, fm10_put5), (107, none, 6, pr10_put5, fm10_put5), (115, none, 2, pr10_put, fm10_put)]
noncomputable def kb10_putPlain : am_B := (kd10_putPlain, am_as kf10, hn_ty, fun _ => none, fun _ => none, am_as ki10_putPlain, fun _ => none, 5, 2, none)
def fn10_putPlain (s : hs) (p0 : Int32) : hs := (if p0 = (38 : Int32) then (fn10_put5 s (38 : Int32) (97 : Int32) (109 : Int32) (112 : Int32) (59 : Int32)) else (if p0 = (60 : Int32) then (fn10_put5 s (38 : Int32) (108 : Int32) (116 : Int32) (59 : Int32) (0 : Int32)) else (if p0 = (62 : Int32) then (fn10_put5 s (38 : Int32) (103 : Int32) (116 : Int32) (59 : Int32) (0 : Int32)) else (if p0 = (34 : Int32) then (fn10_put5 s (38 : Int32) (35 : Int32) (51 : Int32) (52 : Int32) (59 : Int32)) else (if p0 = (39 : Int32) then (fn10_put5 s (38 : Int32) (35 : Int32) (51 : Int32) (57 : Int32) (59 : Int32)) else (fn10_put s p0))))))
def wp10_putPlain (s : hs) (p0 : Int32) : Prop := ((p0 = (38 : Int32) → (wp10_put5 s (38 : Int32) (97 : Int32) (109 : Int32) (112 : Int32) (59 : Int32))) ∧ (¬ p0 = (38 : Int32) → ((p0 = (60 : Int32) → (wp10_put5 s (38 : Int32) (108 : Int32) (116 : Int32) (59 : Int32) (0 : Int32))) ∧ (¬ p0 = (60 : Int32) → ((p0 = (62 : Int32) → (wp10_put5 s (38 : Int32) (103 : Int32) (116 : Int32) (59 : Int32) (0 : Int32))) ∧ (¬ p0 = (62 : Int32) → ((p0 = (34 : Int32) → (wp10_put5 s (38 : Int32) (35 : Int32) (51 : Int32) (52 : Int32) (59 : Int32))) ∧ (¬ p0 = (34 : Int32) → ((p0 = (39 : Int32) → (wp10_put5 s (38 : Int32) (35 : Int32) (51 : Int32) (57 : Int32) (59 : Int32))) ∧ (¬ p0 = (39 : Int32) → (wp10_put s p0)))))))))))
set_option maxRecDepth 100000 in
set_option maxHeartbeats 4000000 in
theorem re10_putPlain (s : hs) (p0 : Int32) (hp : wp10_putPlain s p0) : am_lf (am_mk kb10_putPlain 0 0 22) [] (0, am_L0 [.inr (.inl 0), .inl p0] 2, [], hm_w s, 0, 0) = some (none, hm_w (fn10_putPlain s p0)) := by
  unfold wp10_putPlain at hp
  refine am_lf_eq ?_
  generalize am_lf (am_mk kb10_putPlain 0 0 22) [] = kt
  refine am_if (c := p0 = (38 : Int32)) (fun h1 => ?_) (fun h1 => ?_)
  · have q1 := hp.1 h1
    refine am_cx (pre := pr10_put5) (f := fm10_put5) (r := (none, hm_w (fn10_put5 s (38 : Int32) (97 : Int32) (109 : Int32) (112 : Int32) (59 : Int32)), 0, 0)) ?_ ?_ ?_
    · exact ⟨s, [(38 : Int32), (97 : Int32), (109 : Int32), (112 : Int32), (59 : Int32)], rfl, rfl, q1⟩
    · exact hm_fv_w _ _ [_, _, _, _, _]
    have e : fn10_putPlain s p0 = (fn10_put5 s (38 : Int32) (97 : Int32) (109 : Int32) (112 : Int32) (59 : Int32)) := by
      rw [fn10_putPlain]
      rw [if_pos h1]
    rw [e] <;> rfl
  · have q1 := hp.2 h1
    refine am_if (c := p0 = (60 : Int32)) (fun h2 => ?_) (fun h2 => ?_)
    · have q2 := q1.1 h2
      refine am_cx (pre := pr10_put5) (f := fm10_put5) (r := (none, hm_w (fn10_put5 s (38 : Int32) (108 : Int32) (116 : Int32) (59 : Int32) (0 : Int32)), 0, 0)) ?_ ?_ ?_
      · exact ⟨s, [(38 : Int32), (108 : Int32), (116 : Int32), (59 : Int32), (0 : Int32)], rfl, rfl, q2⟩
      · exact hm_fv_w _ _ [_, _, _, _, _]
      have e : fn10_putPlain s p0 = (fn10_put5 s (38 : Int32) (108 : Int32) (116 : Int32) (59 : Int32) (0 : Int32)) := by
        rw [fn10_putPlain]
        rw [if_neg h1, if_pos h2]
      rw [e] <;> rfl
    · have q2 := q1.2 h2
      refine am_if (c := p0 = (62 : Int32)) (fun h3 => ?_) (fun h3 => ?_)
      · have q3 := q2.1 h3
        refine am_cx (pre := pr10_put5) (f := fm10_put5) (r := (none, hm_w (fn10_put5 s (38 : Int32) (103 : Int32) (116 : Int32) (59 : Int32) (0 : Int32)), 0, 0)) ?_ ?_ ?_
        · exact ⟨s, [(38 : Int32), (103 : Int32), (116 : Int32), (59 : Int32), (0 : Int32)], rfl, rfl, q3⟩
        · exact hm_fv_w _ _ [_, _, _, _, _]
        have e : fn10_putPlain s p0 = (fn10_put5 s (38 : Int32) (103 : Int32) (116 : Int32) (59 : Int32) (0 : Int32)) := by
          rw [fn10_putPlain]
          rw [if_neg h1, if_neg h2, if_pos h3]
        rw [e] <;> rfl
      · have q3 := q2.2 h3
        refine am_if (c := p0 = (34 : Int32)) (fun h4 => ?_) (fun h4 => ?_)
        · have q4 := q3.1 h4
          refine am_cx (pre := pr10_put5) (f := fm10_put5) (r := (none, hm_w (fn10_put5 s (38 : Int32) (35 : Int32) (51 : Int32) (52 : Int32) (59 : Int32)), 0, 0)) ?_ ?_ ?_
          · exact ⟨s, [(38 : Int32), (35 : Int32), (51 : Int32), (52 : Int32), (59 : Int32)], rfl, rfl, q4⟩
          · exact hm_fv_w _ _ [_, _, _, _, _]
          have e : fn10_putPlain s p0 = (fn10_put5 s (38 : Int32) (35 : Int32) (51 : Int32) (52 : Int32) (59 : Int32)) := by
            rw [fn10_putPlain]
            rw [if_neg h1, if_neg h2, if_neg h3, if_pos h4]
          rw [e] <;> rfl
        · have q4 := q3.2 h4
          refine am_if (c := p0 = (39 : Int32)) (fun h5 => ?_) (fun h5 => ?_)
          · have q5 := q4.1 h5
            refine am_cx (pre := pr10_put5) (f := fm10_put5) (r := (none, hm_w (fn10_put5 s (38 : Int32) (35 : Int32) (51 : Int32) (57 : Int32) (59 : Int32)), 0, 0)) ?_ ?_ ?_
            · exact ⟨s, [(38 : Int32), (35 : Int32), (51 : Int32), (57 : Int32), (59 : Int32)], rfl, rfl, q5⟩
            · exact hm_fv_w _ _ [_, _, _, _, _]
            have e : fn10_putPlain s p0 = (fn10_put5 s (38 : Int32) (35 : Int32) (51 : Int32) (57 : Int32) (59 : Int32)) := by
              rw [fn10_putPlain]
              rw [if_neg h1, if_neg h2, if_neg h3, if_neg h4, if_pos h5]
            rw [e] <;> rfl
          · have q5 := q4.2 h5
            refine am_cx (pre := pr10_put) (f := fm10_put) (r := (none, hm_w (fn10_put s p0), 0, 0)) ?_ ?_ ?_
            · exact ⟨s, [p0], rfl, rfl, q5⟩
            · exact hm_fv_w _ _ [_]
            have e : fn10_putPlain s p0 = (fn10_put s p0) := by
              rw [fn10_putPlain]
              rw [if_neg h1, if_neg h2, if_neg h3, if_neg h4, if_neg h5]
            rw [e] <;> rfl
abbrev pr10_putPlain : List am_V → List am_C → Prop := hm_pr (fun s is => match is with
  | [p0] => wp10_putPlain s p0
  | _ => False)
def fm10_putPlain : am_M := hm_fv (fun s is => match is with
  | [p0] => fn10_putPlain s p0
  | _ => s)
set_option maxRecDepth 100000 in
set_option maxHeartbeats 4000000 in
theorem rn10_putPlain : ∀ (a : List am_V) (w : List am_C), pr10_putPlain a w → ∃ n, am_ev (am_mk kb10_putPlain (fm10_putPlain a w).2.2.1 (fm10_putPlain a w).2.2.2 w.length) [] n (0, am_L0 a 2, [], w, 0, 0) = some ((fm10_putPlain a w).1, (fm10_putPlain a w).2.1) := by
  rintro a w ⟨s, is, rfl, rfl, hp⟩
  rcases is with _ | ⟨p0, _ | ⟨z, is⟩⟩
  · exact hp.elim
  · exact am_lf_ev (re10_putPlain s p0 hp)
  · exact hp.elim
theorem rl10_putPlain : ∀ (a : List am_V) (w : List am_C), pr10_putPlain a w → a.length ≤ 2 := by
  rintro a w ⟨s, is, rfl, rfl, hp⟩
  rcases is with _ | ⟨p0, _ | ⟨z, is⟩⟩
  · exact hp.elim
  · exact Nat.le_of_ble_eq_true rfl
  · exact hp.elim
set_option maxRecDepth 100000 in
set_option maxHeartbeats 4000000 in
theorem km10_putPlain {l : Launch} {E : (Nat → Prop) → State → Prop} {D : va_G} {ou : Nat → Nat} {ca : Nat → ClassId} (hE : am_EC E) : hg_Met l E D ou ca hy10_putPlain prog_12_method_58_code 2 none 2 pr10_putPlain fm10_putPlain := by
  refine am_met (B := kb10_putPlain) (cuts := []) (nt := 5) (by decide +kernel) rfl rfl (hg_tys_ok ca) ?_ (by decide) rl10_putPlain ?_ rn10_putPlain
  · exact fun t ht => List.mem_cons_of_mem _ (hg_arr t ht)
  · intro a w hp ad p e R s m args below meth c hR X hEs hnm
    have hR1 : 2 ≤ R.frames ∧ 80 ≤ R.locals := by rw [hR]; exact ⟨Nat.le_refl _, Nat.le_refl _⟩
    refine ⟨kd10_putPlain_ok, fun index ci fi mode hq => kf10_ok X.2.2.2.2.1 (index, ci, fi, mode) (am_as_mem hq), fun index ci fs hq => (am_no hq).elim, fun x v hq => (am_no hq).elim, ?_, fun o n f hq => (am_no hq).elim, rfl, rfl, by rw [hR]; exact Nat.le_refl _, by rw [hR]; exact Nat.le_refl _⟩
    intro pc sel n0 pre0 f0 hq
    have hz : ∀ q ∈ ki10_putPlain, am_CK p l e R s m args below meth c D hn_cl (va_A (am_w ad ou ca w) s.heap.size) ou ca 2 q.1 q.2.2.1 q.2.2.2.1 q.2.2.2.2 := by
      refine am_allc (am_ck_V (n := 5) X hEs hE (km10_put5 hE) (hg_good (gw_mem 1320 (by decide +kernel))) rfl (List.mem_cons_of_mem _ (gw_mem 76 (by decide +kernel))) (List.mem_cons_of_mem _ (gw_mem 1317 (by decide +kernel))) (List.mem_cons_of_mem _ (gw_mem 1319 (by decide +kernel))) (List.mem_cons_of_mem _ (gw_mem 56 (by decide +kernel))) hm_pa (by decide +kernel) ⟨Nat.le_trans (by decide) hR1.1, Nat.le_trans (by decide) hR1.2⟩ (kd10_putPlain_ok (17, .invokevirtual 263, 3) (List.mem_of_getElem? (i := 9) rfl))) (am_allc (am_ck_V (n := 5) X hEs hE (km10_put5 hE) (hg_good (gw_mem 1320 (by decide +kernel))) rfl (List.mem_cons_of_mem _ (gw_mem 76 (by decide +kernel))) (List.mem_cons_of_mem _ (gw_mem 1317 (by decide +kernel))) (List.mem_cons_of_mem _ (gw_mem 1319 (by decide +kernel))) (List.mem_cons_of_mem _ (gw_mem 56 (by decide +kernel))) hm_pa (by decide +kernel) ⟨Nat.le_trans (by decide) hR1.1, Nat.le_trans (by decide) hR1.2⟩ (kd10_putPlain_ok (39, .invokevirtual 263, 3) (List.mem_of_getElem? (i := 20) rfl))) (am_allc (am_ck_V (n := 5) X hEs hE (km10_put5 hE) (hg_good (gw_mem 1320 (by decide +kernel))) rfl (List.mem_cons_of_mem _ (gw_mem 76 (by decide +kernel))) (List.mem_cons_of_mem _ (gw_mem 1317 (by decide +kernel))) (List.mem_cons_of_mem _ (gw_mem 1319 (by decide +kernel))) (List.mem_cons_of_mem _ (gw_mem 56 (by decide +kernel))) hm_pa (by decide +kernel) ⟨Nat.le_trans (by decide) hR1.1, Nat.le_trans (by decide) hR1.2⟩ (kd10_putPlain_ok (61, .invokevirtual 263, 3) (List.mem_of_getElem? (i := 31) rfl))) (am_allc (am_ck_V (n := 5) X hEs hE (km10_put5 hE) (hg_good (gw_mem 1320 (by decide +kernel))) rfl (List.mem_cons_of_mem _ (gw_mem 76 (by decide +kernel))) (List.mem_cons_of_mem _ (gw_mem 1317 (by decide +kernel))) (List.mem_cons_of_mem _ (gw_mem 1319 (by decide +kernel))) (List.mem_cons_of_mem _ (gw_mem 56 (by decide +kernel))) hm_pa (by decide +kernel) ⟨Nat.le_trans (by decide) hR1.1, Nat.le_trans (by decide) hR1.2⟩ (kd10_putPlain_ok (84, .invokevirtual 263, 3) (List.mem_of_getElem? (i := 42) rfl))) (am_allc (am_ck_V (n := 5) X hEs hE (km10_put5 hE) (hg_good (gw_mem 1320 (by decide +kernel))) rfl (List.mem_cons_of_mem _ (gw_mem 76 (by decide +kernel))) (List.mem_cons_of_mem _ (gw_mem 1317 (by decide +kernel))) (List.mem_cons_of_mem _ (gw_mem 1319 (by decide +kernel))) (List.mem_cons_of_mem _ (gw_mem 56 (by decide +kernel))) hm_pa (by decide +kernel) ⟨Nat.le_trans (by decide) hR1.1, Nat.le_trans (by decide) hR1.2⟩ (kd10_putPlain_ok (107, .invokevirtual 263, 3) (List.mem_of_getElem? (i := 53) rfl))) (am_allc (am_ck_V (n := 1) X hEs hE (km10_put hE) (hg_good (gw_mem 1292 (by decide +kernel))) rfl (List.mem_cons_of_mem _ (gw_mem 76 (by decide +kernel))) (List.mem_cons_of_mem _ (gw_mem 1289 (by decide +kernel))) (List.mem_cons_of_mem _ (gw_mem 1291 (by decide +kernel))) (List.mem_cons_of_mem _ (gw_mem 49 (by decide +kernel))) hm_pa (by decide +kernel) ⟨Nat.le_trans (by decide) hR1.1, Nat.le_trans (by decide) hR1.2⟩ (kd10_putPlain_ok (115, .invokevirtual 259, 3) (List.mem_of_getElem? (i := 57) rfl))) (am_all0))))))
    exact hz _ (am_as_mem hq)
noncomputable def ki10_putUrl : List (Nat × Option (List Nat) × Nat × (List am_V → List am_C → Prop) × am_M) := [(1, some [], 1, pr10_isWord, fm10_isWord), (37, some [], 1, pr10_staysInUrl, fm10_staysInUrl), (55, none, 2, pr10_put, fm10_put), (83, none, 6, pr10_put5, fm10_put5), (92, none, 2, pr10_put, fm10_put), (97, none, 2, pr10_putHex, fm10_putHex)]
noncomputable def kb10_putUrl : am_B := (kd10_putUrl, am_as kf10, hn_ty, fun _ => none, fun _ => none, am_as ki10_putUrl, fun _ => none, 5, 4, none)
def fn10_putUrl_c89 (s : hs) (v1 : Int32) (v2 : Int32) (v3 : Int32) : hs := (fn10_putHex (fn10_put s (37 : Int32)) v1)
def wp10_putUrl_c89 (s : hs) (v1 : Int32) (v2 : Int32) (v3 : Int32) : Prop := ((wp10_put s (37 : Int32)) ∧ (wp10_putHex (fn10_put s (37 : Int32)) v1))
set_option maxRecDepth 100000 in
set_option maxHeartbeats 4000000 in
theorem rc10_putUrl_89 (s : hs) (v1 : Int32) (v2 : Int32) (v3 : Int32) (hp : wp10_putUrl_c89 s v1 v2 v3) : am_lf (am_mk kb10_putUrl 0 0 22) [43, 47, 89] (89, [some (.inr (.inl 0)), some (.inl v1), some (.inl v2), some (.inl v3)], [], hm_w s, 0, 0) = some (none, hm_w (fn10_putUrl_c89 s v1 v2 v3)) := by
  unfold wp10_putUrl_c89 at hp
  refine am_lf_eq ?_
  generalize am_lf (am_mk kb10_putUrl 0 0 22) [43, 47, 89] = kt
  refine am_cx (pre := pr10_put) (f := fm10_put) (r := (none, hm_w (fn10_put s (37 : Int32)), 0, 0)) ?_ ?_ ?_
  · exact ⟨s, [(37 : Int32)], rfl, rfl, hp.1⟩
  · exact hm_fv_w _ _ [_]
  refine am_cx (pre := pr10_putHex) (f := fm10_putHex) (r := (none, hm_w (fn10_putHex (fn10_put s (37 : Int32)) v1), 0, 0)) ?_ ?_ ?_
  · exact ⟨(fn10_put s (37 : Int32)), [v1], rfl, rfl, hp.2⟩
  · exact hm_fv_w _ _ [_]
  rfl
def fn10_putUrl_c43 (s : hs) (v1 : Int32) (v2 : Int32) : hs := (fn10_put s v1)
def wp10_putUrl_c43 (s : hs) (v1 : Int32) (v2 : Int32) : Prop := (wp10_put s v1)
set_option maxRecDepth 100000 in
set_option maxHeartbeats 4000000 in
theorem rc10_putUrl_43 (s : hs) (v1 : Int32) (v2 : Int32) (j3 : Option am_V) (hp : wp10_putUrl_c43 s v1 v2) : am_lf (am_mk kb10_putUrl 0 0 22) [43, 47, 89] (43, [some (.inr (.inl 0)), some (.inl v1), some (.inl v2), j3], [], hm_w s, 0, 0) = some (none, hm_w (fn10_putUrl_c43 s v1 v2)) := by
  unfold wp10_putUrl_c43 at hp
  refine am_lf_eq ?_
  generalize am_lf (am_mk kb10_putUrl 0 0 22) [43, 47, 89] = kt
  refine am_cx (pre := pr10_put) (f := fm10_put) (r := (none, hm_w (fn10_put s v1), 0, 0)) ?_ ?_ ?_
  · exact ⟨s, [v1], rfl, rfl, hp⟩
  · exact hm_fv_w _ _ [_]
  rfl
def fn10_putUrl_c47 (s : hs) (v1 : Int32) (v2 : Int32) : hs := (if v1 = (38 : Int32) then (if (2 : Int32) ≤ v2 then (fn10_putUrl_c89 s v1 v2 (0 : Int32)) else (fn10_put5 s (38 : Int32) (97 : Int32) (109 : Int32) (112 : Int32) (59 : Int32))) else (fn10_putUrl_c89 s v1 v2 (0 : Int32)))
def wp10_putUrl_c47 (s : hs) (v1 : Int32) (v2 : Int32) : Prop := ((v1 = (38 : Int32) → (((2 : Int32) ≤ v2 → (wp10_putUrl_c89 s v1 v2 (0 : Int32))) ∧ (¬ (2 : Int32) ≤ v2 → (wp10_put5 s (38 : Int32) (97 : Int32) (109 : Int32) (112 : Int32) (59 : Int32))))) ∧ (¬ v1 = (38 : Int32) → (wp10_putUrl_c89 s v1 v2 (0 : Int32))))
set_option maxRecDepth 100000 in
set_option maxHeartbeats 4000000 in
theorem rc10_putUrl_47 (s : hs) (v1 : Int32) (v2 : Int32) (j3 : Option am_V) (hp : wp10_putUrl_c47 s v1 v2) : am_lf (am_mk kb10_putUrl 0 0 22) [43, 47, 89] (47, [some (.inr (.inl 0)), some (.inl v1), some (.inl v2), j3], [], hm_w s, 0, 0) = some (none, hm_w (fn10_putUrl_c47 s v1 v2)) := by
  unfold wp10_putUrl_c47 at hp
  have i89 := @rc10_putUrl_89
  refine am_lf_eq ?_
  generalize am_lf (am_mk kb10_putUrl 0 0 22) [43, 47, 89] = kt at i89 ⊢
  refine am_if (c := v1 = (38 : Int32)) (fun h1 => ?_) (fun h1 => ?_)
  · have q1 := hp.1 h1
    refine am_if (c := (2 : Int32) ≤ v2) (fun h2 => ?_) (fun h2 => ?_)
    · have q2 := q1.1 h2
      have e : fn10_putUrl_c47 s v1 v2 = fn10_putUrl_c89 s v1 v2 (0 : Int32) := by
        rw [fn10_putUrl_c47]
        rw [if_pos h1, if_pos h2]
      rw [e]
      exact i89 s v1 v2 (0 : Int32)  q2
    · have q2 := q1.2 h2
      refine am_cx (pre := pr10_put5) (f := fm10_put5) (r := (none, hm_w (fn10_put5 s (38 : Int32) (97 : Int32) (109 : Int32) (112 : Int32) (59 : Int32)), 0, 0)) ?_ ?_ ?_
      · exact ⟨s, [(38 : Int32), (97 : Int32), (109 : Int32), (112 : Int32), (59 : Int32)], rfl, rfl, q2⟩
      · exact hm_fv_w _ _ [_, _, _, _, _]
      have e : fn10_putUrl_c47 s v1 v2 = (fn10_put5 s (38 : Int32) (97 : Int32) (109 : Int32) (112 : Int32) (59 : Int32)) := by
        rw [fn10_putUrl_c47]
        rw [if_pos h1, if_neg h2]
      rw [e] <;> rfl
  · have q1 := hp.2 h1
    have e : fn10_putUrl_c47 s v1 v2 = fn10_putUrl_c89 s v1 v2 (0 : Int32) := by
      rw [fn10_putUrl_c47]
      rw [if_neg h1]
    rw [e]
    exact i89 s v1 v2 (0 : Int32)  q1
def fn10_putUrl (s : hs) (p0 : Int32) (p1 : Int32) : hs := (if (fn10_isWord p0) = 0 then (if p0 = (45 : Int32) then (fn10_putUrl_c43 s p0 p1) else (if p0 = (46 : Int32) then (fn10_putUrl_c43 s p0 p1) else (if p0 = (95 : Int32) then (fn10_putUrl_c43 s p0 p1) else (if p0 = (126 : Int32) then (fn10_putUrl_c43 s p0 p1) else (if (2 : Int32) ≤ p1 then (fn10_putUrl_c47 s p0 p1) else (if (fn10_staysInUrl p0) = 0 then (fn10_putUrl_c47 s p0 p1) else (fn10_putUrl_c43 s p0 p1))))))) else (fn10_putUrl_c43 s p0 p1))
def wp10_putUrl (s : hs) (p0 : Int32) (p1 : Int32) : Prop := ((wp10_isWord p0) ∧ (((fn10_isWord p0) = 0 → ((p0 = (45 : Int32) → (wp10_putUrl_c43 s p0 p1)) ∧ (¬ p0 = (45 : Int32) → ((p0 = (46 : Int32) → (wp10_putUrl_c43 s p0 p1)) ∧ (¬ p0 = (46 : Int32) → ((p0 = (95 : Int32) → (wp10_putUrl_c43 s p0 p1)) ∧ (¬ p0 = (95 : Int32) → ((p0 = (126 : Int32) → (wp10_putUrl_c43 s p0 p1)) ∧ (¬ p0 = (126 : Int32) → (((2 : Int32) ≤ p1 → (wp10_putUrl_c47 s p0 p1)) ∧ (¬ (2 : Int32) ≤ p1 → ((wp10_staysInUrl p0) ∧ (((fn10_staysInUrl p0) = 0 → (wp10_putUrl_c47 s p0 p1)) ∧ (¬ (fn10_staysInUrl p0) = 0 → (wp10_putUrl_c43 s p0 p1))))))))))))))) ∧ (¬ (fn10_isWord p0) = 0 → (wp10_putUrl_c43 s p0 p1))))
set_option maxRecDepth 100000 in
set_option maxHeartbeats 4000000 in
theorem re10_putUrl (s : hs) (p0 : Int32) (p1 : Int32) (hp : wp10_putUrl s p0 p1) : am_lf (am_mk kb10_putUrl 0 0 22) [43, 47, 89] (0, am_L0 [.inr (.inl 0), .inl p0, .inl p1] 4, [], hm_w s, 0, 0) = some (none, hm_w (fn10_putUrl s p0 p1)) := by
  unfold wp10_putUrl at hp
  have i43 := @rc10_putUrl_43
  have i47 := @rc10_putUrl_47
  refine am_lf_eq ?_
  generalize am_lf (am_mk kb10_putUrl 0 0 22) [43, 47, 89] = kt at i43 i47 ⊢
  refine am_cy (pre := pr10_isWord) (f := fm10_isWord) (r := (some (.inl (fn10_isWord p0)), [], 0, 0)) ?_ ?_ ?_
  · exact ⟨[p0], rfl, rfl, hp.1⟩
  · rfl
  refine am_if (c := (fn10_isWord p0) = 0) (fun h1 => ?_) (fun h1 => ?_)
  · have q1 := hp.2.1 h1
    refine am_if (c := p0 = (45 : Int32)) (fun h2 => ?_) (fun h2 => ?_)
    · have q2 := q1.1 h2
      have e : fn10_putUrl s p0 p1 = fn10_putUrl_c43 s p0 p1 := by
        rw [fn10_putUrl]
        rw [if_pos h1, if_pos h2]
      rw [e]
      exact i43 s p0 p1 _ q2
    · have q2 := q1.2 h2
      refine am_if (c := p0 = (46 : Int32)) (fun h3 => ?_) (fun h3 => ?_)
      · have q3 := q2.1 h3
        have e : fn10_putUrl s p0 p1 = fn10_putUrl_c43 s p0 p1 := by
          rw [fn10_putUrl]
          rw [if_pos h1, if_neg h2, if_pos h3]
        rw [e]
        exact i43 s p0 p1 _ q3
      · have q3 := q2.2 h3
        refine am_if (c := p0 = (95 : Int32)) (fun h4 => ?_) (fun h4 => ?_)
        · have q4 := q3.1 h4
          have e : fn10_putUrl s p0 p1 = fn10_putUrl_c43 s p0 p1 := by
            rw [fn10_putUrl]
            rw [if_pos h1, if_neg h2, if_neg h3, if_pos h4]
          rw [e]
          exact i43 s p0 p1 _ q4
        · have q4 := q3.2 h4
          refine am_if (c := p0 = (126 : Int32)) (fun h5 => ?_) (fun h5 => ?_)
          · have q5 := q4.1 h5
            have e : fn10_putUrl s p0 p1 = fn10_putUrl_c43 s p0 p1 := by
              rw [fn10_putUrl]
              rw [if_pos h1, if_neg h2, if_neg h3, if_neg h4, if_pos h5]
            rw [e]
            exact i43 s p0 p1 _ q5
          · have q5 := q4.2 h5
            refine am_if (c := (2 : Int32) ≤ p1) (fun h6 => ?_) (fun h6 => ?_)
            · have q6 := q5.1 h6
              have e : fn10_putUrl s p0 p1 = fn10_putUrl_c47 s p0 p1 := by
                rw [fn10_putUrl]
                rw [if_pos h1, if_neg h2, if_neg h3, if_neg h4, if_neg h5, if_pos h6]
              rw [e]
              exact i47 s p0 p1 _ q6
            · have q6 := q5.2 h6
              refine am_cy (pre := pr10_staysInUrl) (f := fm10_staysInUrl) (r := (some (.inl (fn10_staysInUrl p0)), [], 0, 0)) ?_ ?_ ?_
              · exact ⟨[p0], rfl, rfl, q6.1⟩
              · rfl
              refine am_if (c := (fn10_staysInUrl p0) = 0) (fun h7 => ?_) (fun h7 => ?_)
              · have q7 := q6.2.1 h7
                have e : fn10_putUrl s p0 p1 = fn10_putUrl_c47 s p0 p1 := by
                  rw [fn10_putUrl]
                  rw [if_pos h1, if_neg h2, if_neg h3, if_neg h4, if_neg h5, if_neg h6, if_pos h7]
                rw [e]
                exact i47 s p0 p1 _ q7
              · have q7 := q6.2.2 h7
                have e : fn10_putUrl s p0 p1 = fn10_putUrl_c43 s p0 p1 := by
                  rw [fn10_putUrl]
                  rw [if_pos h1, if_neg h2, if_neg h3, if_neg h4, if_neg h5, if_neg h6, if_neg h7]
                rw [e]
                exact i43 s p0 p1 _ q7
  · have q1 := hp.2.2 h1
    have e : fn10_putUrl s p0 p1 = fn10_putUrl_c43 s p0 p1 := by
      rw [fn10_putUrl]
      rw [if_neg h1]
    rw [e]
    exact i43 s p0 p1 _ q1
abbrev pr10_putUrl : List am_V → List am_C → Prop := hm_pr (fun s is => match is with
  | [p0, p1] => wp10_putUrl s p0 p1
  | _ => False)
def fm10_putUrl : am_M := hm_fv (fun s is => match is with
  | [p0, p1] => fn10_putUrl s p0 p1
  | _ => s)
set_option maxRecDepth 100000 in
set_option maxHeartbeats 4000000 in
theorem rn10_putUrl : ∀ (a : List am_V) (w : List am_C), pr10_putUrl a w → ∃ n, am_ev (am_mk kb10_putUrl (fm10_putUrl a w).2.2.1 (fm10_putUrl a w).2.2.2 w.length) [43, 47, 89] n (0, am_L0 a 4, [], w, 0, 0) = some ((fm10_putUrl a w).1, (fm10_putUrl a w).2.1) := by
  rintro a w ⟨s, is, rfl, rfl, hp⟩
  rcases is with _ | ⟨p0, _ | ⟨p1, _ | ⟨z, is⟩⟩⟩
  · exact hp.elim
  · exact hp.elim
  · exact am_lf_ev (re10_putUrl s p0 p1 hp)
  · exact hp.elim
theorem rl10_putUrl : ∀ (a : List am_V) (w : List am_C), pr10_putUrl a w → a.length ≤ 4 := by
  rintro a w ⟨s, is, rfl, rfl, hp⟩
  rcases is with _ | ⟨p0, _ | ⟨p1, _ | ⟨z, is⟩⟩⟩
  · exact hp.elim
  · exact hp.elim
  · exact Nat.le_of_ble_eq_true rfl
  · exact hp.elim
set_option maxRecDepth 100000 in
set_option maxHeartbeats 4000000 in
theorem km10_putUrl {l : Launch} {E : (Nat → Prop) → State → Prop} {D : va_G} {ou : Nat → Nat} {ca : Nat → ClassId} (hE : am_EC E) : hg_Met l E D ou ca hy10_putUrl prog_12_method_60_code 4 none 2 pr10_putUrl fm10_putUrl := by
  refine am_met (B := kb10_putUrl) (cuts := [43, 47, 89]) (nt := 5) (by decide +kernel) rfl rfl (hg_tys_ok ca) ?_ (by decide) rl10_putUrl ?_ rn10_putUrl
  · exact fun t ht => List.mem_cons_of_mem _ (hg_arr t ht)
  · intro a w hp ad p e R s m args below meth c hR X hEs hnm
    have hR1 : 2 ≤ R.frames ∧ 80 ≤ R.locals := by rw [hR]; exact ⟨Nat.le_refl _, Nat.le_refl _⟩
    refine ⟨kd10_putUrl_ok, fun index ci fi mode hq => kf10_ok X.2.2.2.2.1 (index, ci, fi, mode) (am_as_mem hq), fun index ci fs hq => (am_no hq).elim, fun x v hq => (am_no hq).elim, ?_, fun o n f hq => (am_no hq).elim, rfl, rfl, by rw [hR]; exact Nat.le_refl _, by rw [hR]; exact Nat.le_refl _⟩
    intro pc sel n0 pre0 f0 hq
    have hz : ∀ q ∈ ki10_putUrl, am_CK p l e R s m args below meth c D hn_cl (va_A (am_w ad ou ca w) s.heap.size) ou ca 4 q.1 q.2.2.1 q.2.2.2.1 q.2.2.2.2 := by
      refine am_allc (am_ck_S (n := 1) X hEs hE (km10_isWord hE) (hg_good (gw_mem 1154 (by decide +kernel))) rfl (List.mem_cons_of_mem _ (gw_mem 76 (by decide +kernel))) (List.mem_cons_of_mem _ (gw_mem 1152 (by decide +kernel))) (List.mem_cons_of_mem _ (gw_mem 1153 (by decide +kernel))) (by decide +kernel) ⟨Nat.le_trans (by decide) hR1.1, Nat.le_trans (by decide) hR1.2⟩ (kd10_putUrl_ok (1, .invokestatic 140, 3) (List.mem_of_getElem? (i := 1) rfl))) (am_allc (am_ck_S (n := 1) X hEs hE (km10_staysInUrl hE) (hg_good (gw_mem 1339 (by decide +kernel))) rfl (List.mem_cons_of_mem _ (gw_mem 76 (by decide +kernel))) (List.mem_cons_of_mem _ (gw_mem 1337 (by decide +kernel))) (List.mem_cons_of_mem _ (gw_mem 1338 (by decide +kernel))) (by decide +kernel) ⟨Nat.le_trans (by decide) hR1.1, Nat.le_trans (by decide) hR1.2⟩ (kd10_putUrl_ok (37, .invokestatic 267, 3) (List.mem_of_getElem? (i := 19) rfl))) (am_allc (am_ck_V (n := 1) X hEs hE (km10_put hE) (hg_good (gw_mem 1292 (by decide +kernel))) rfl (List.mem_cons_of_mem _ (gw_mem 76 (by decide +kernel))) (List.mem_cons_of_mem _ (gw_mem 1289 (by decide +kernel))) (List.mem_cons_of_mem _ (gw_mem 1291 (by decide +kernel))) (List.mem_cons_of_mem _ (gw_mem 49 (by decide +kernel))) hm_pa (by decide +kernel) ⟨Nat.le_trans (by decide) hR1.1, Nat.le_trans (by decide) hR1.2⟩ (kd10_putUrl_ok (55, .invokevirtual 259, 3) (List.mem_of_getElem? (i := 29) rfl))) (am_allc (am_ck_V (n := 5) X hEs hE (km10_put5 hE) (hg_good (gw_mem 1320 (by decide +kernel))) rfl (List.mem_cons_of_mem _ (gw_mem 76 (by decide +kernel))) (List.mem_cons_of_mem _ (gw_mem 1317 (by decide +kernel))) (List.mem_cons_of_mem _ (gw_mem 1319 (by decide +kernel))) (List.mem_cons_of_mem _ (gw_mem 56 (by decide +kernel))) hm_pa (by decide +kernel) ⟨Nat.le_trans (by decide) hR1.1, Nat.le_trans (by decide) hR1.2⟩ (kd10_putUrl_ok (83, .invokevirtual 263, 3) (List.mem_of_getElem? (i := 43) rfl))) (am_allc (am_ck_V (n := 1) X hEs hE (km10_put hE) (hg_good (gw_mem 1292 (by decide +kernel))) rfl (List.mem_cons_of_mem _ (gw_mem 76 (by decide +kernel))) (List.mem_cons_of_mem _ (gw_mem 1289 (by decide +kernel))) (List.mem_cons_of_mem _ (gw_mem 1291 (by decide +kernel))) (List.mem_cons_of_mem _ (gw_mem 49 (by decide +kernel))) hm_pa (by decide +kernel) ⟨Nat.le_trans (by decide) hR1.1, Nat.le_trans (by decide) hR1.2⟩ (kd10_putUrl_ok (92, .invokevirtual 259, 3) (List.mem_of_getElem? (i := 47) rfl))) (am_allc (am_ck_V (n := 1) X hEs hE (km10_putHex hE) (hg_good (gw_mem 1343 (by decide +kernel))) rfl (List.mem_cons_of_mem _ (gw_mem 76 (by decide +kernel))) (List.mem_cons_of_mem _ (gw_mem 1340 (by decide +kernel))) (List.mem_cons_of_mem _ (gw_mem 1342 (by decide +kernel))) (List.mem_cons_of_mem _ (gw_mem 61 (by decide +kernel))) hm_pa (by decide +kernel) ⟨Nat.le_trans (by decide) hR1.1, Nat.le_trans (by decide) hR1.2⟩ (kd10_putUrl_ok (97, .invokevirtual 270, 3) (List.mem_of_getElem? (i := 50) rfl))) (am_all0))))))
    exact hz _ (am_as_mem hq)
noncomputable def ki10_putQuote : List (Nat × Option (List Nat) × Nat × (List am_V → List am_C → Prop) × am_M) := [(9, none, 2, pr10_putPlain, fm10_putPlain), (24, none, 2, pr10_put, fm10_put)]
noncomputable def kb10_putQuote : am_B := (kd10_putQuote, am_as kf10, hn_ty, fun _ => none, fun _ => none, am_as ki10_putQuote, fun _ => none, 5, 2, none)
def fn10_putQuote (s : hs) (p0 : Int32) : hs := (if p0 = (24 : Int32) then (fn10_putPlain s (34 : Int32)) else (if p0 = (8 : Int32) then (fn10_put s (34 : Int32)) else s))
def wp10_putQuote (s : hs) (p0 : Int32) : Prop := ((p0 = (24 : Int32) → (wp10_putPlain s (34 : Int32))) ∧ (¬ p0 = (24 : Int32) → ((p0 = (8 : Int32) → (wp10_put s (34 : Int32))) ∧ (¬ p0 = (8 : Int32) → True))))
set_option maxRecDepth 100000 in
set_option maxHeartbeats 4000000 in
theorem re10_putQuote (s : hs) (p0 : Int32) (hp : wp10_putQuote s p0) : am_lf (am_mk kb10_putQuote 0 0 22) [] (0, am_L0 [.inr (.inl 0), .inl p0] 2, [], hm_w s, 0, 0) = some (none, hm_w (fn10_putQuote s p0)) := by
  unfold wp10_putQuote at hp
  refine am_lf_eq ?_
  generalize am_lf (am_mk kb10_putQuote 0 0 22) [] = kt
  refine am_if (c := p0 = (24 : Int32)) (fun h1 => ?_) (fun h1 => ?_)
  · have q1 := hp.1 h1
    refine am_cx (pre := pr10_putPlain) (f := fm10_putPlain) (r := (none, hm_w (fn10_putPlain s (34 : Int32)), 0, 0)) ?_ ?_ ?_
    · exact ⟨s, [(34 : Int32)], rfl, rfl, q1⟩
    · exact hm_fv_w _ _ [_]
    have e : fn10_putQuote s p0 = (fn10_putPlain s (34 : Int32)) := by
      rw [fn10_putQuote]
      rw [if_pos h1]
    rw [e] <;> rfl
  · have q1 := hp.2 h1
    refine am_if (c := p0 = (8 : Int32)) (fun h2 => ?_) (fun h2 => ?_)
    · have q2 := q1.1 h2
      refine am_cx (pre := pr10_put) (f := fm10_put) (r := (none, hm_w (fn10_put s (34 : Int32)), 0, 0)) ?_ ?_ ?_
      · exact ⟨s, [(34 : Int32)], rfl, rfl, q2⟩
      · exact hm_fv_w _ _ [_]
      have e : fn10_putQuote s p0 = (fn10_put s (34 : Int32)) := by
        rw [fn10_putQuote]
        rw [if_neg h1, if_pos h2]
      rw [e] <;> rfl
    · have e : fn10_putQuote s p0 = s := by
        rw [fn10_putQuote]
        rw [if_neg h1, if_neg h2]
      rw [e] <;> rfl
abbrev pr10_putQuote : List am_V → List am_C → Prop := hm_pr (fun s is => match is with
  | [p0] => wp10_putQuote s p0
  | _ => False)
def fm10_putQuote : am_M := hm_fv (fun s is => match is with
  | [p0] => fn10_putQuote s p0
  | _ => s)
set_option maxRecDepth 100000 in
set_option maxHeartbeats 4000000 in
theorem rn10_putQuote : ∀ (a : List am_V) (w : List am_C), pr10_putQuote a w → ∃ n, am_ev (am_mk kb10_putQuote (fm10_putQuote a w).2.2.1 (fm10_putQuote a w).2.2.2 w.length) [] n (0, am_L0 a 2, [], w, 0, 0) = some ((fm10_putQuote a w).1, (fm10_putQuote a w).2.1) := by
  rintro a w ⟨s, is, rfl, rfl, hp⟩
  rcases is with _ | ⟨p0, _ | ⟨z, is⟩⟩
  · exact hp.elim
  · exact am_lf_ev (re10_putQuote s p0 hp)
  · exact hp.elim
theorem rl10_putQuote : ∀ (a : List am_V) (w : List am_C), pr10_putQuote a w → a.length ≤ 2 := by
  rintro a w ⟨s, is, rfl, rfl, hp⟩
  rcases is with _ | ⟨p0, _ | ⟨z, is⟩⟩
  · exact hp.elim
  · exact Nat.le_of_ble_eq_true rfl
  · exact hp.elim
set_option maxRecDepth 100000 in
set_option maxHeartbeats 4000000 in
theorem km10_putQuote {l : Launch} {E : (Nat → Prop) → State → Prop} {D : va_G} {ou : Nat → Nat} {ca : Nat → ClassId} (hE : am_EC E) : hg_Met l E D ou ca hy10_putQuote prog_12_method_67_code 2 none 3 pr10_putQuote fm10_putQuote := by
  refine am_met (B := kb10_putQuote) (cuts := []) (nt := 5) (by decide +kernel) rfl rfl (hg_tys_ok ca) ?_ (by decide) rl10_putQuote ?_ rn10_putQuote
  · exact fun t ht => List.mem_cons_of_mem _ (hg_arr t ht)
  · intro a w hp ad p e R s m args below meth c hR X hEs hnm
    have hR1 : 3 ≤ R.frames ∧ 120 ≤ R.locals := by rw [hR]; exact ⟨Nat.le_refl _, Nat.le_refl _⟩
    refine ⟨kd10_putQuote_ok, fun index ci fi mode hq => kf10_ok X.2.2.2.2.1 (index, ci, fi, mode) (am_as_mem hq), fun index ci fs hq => (am_no hq).elim, fun x v hq => (am_no hq).elim, ?_, fun o n f hq => (am_no hq).elim, rfl, rfl, by rw [hR]; exact Nat.le_refl _, by rw [hR]; exact Nat.le_refl _⟩
    intro pc sel n0 pre0 f0 hq
    have hz : ∀ q ∈ ki10_putQuote, am_CK p l e R s m args below meth c D hn_cl (va_A (am_w ad ou ca w) s.heap.size) ou ca 2 q.1 q.2.2.1 q.2.2.2.1 q.2.2.2.2 := by
      refine am_allc (am_ck_V (n := 1) X hEs hE (km10_putPlain hE) (hg_good (gw_mem 1332 (by decide +kernel))) rfl (List.mem_cons_of_mem _ (gw_mem 76 (by decide +kernel))) (List.mem_cons_of_mem _ (gw_mem 1329 (by decide +kernel))) (List.mem_cons_of_mem _ (gw_mem 1331 (by decide +kernel))) (List.mem_cons_of_mem _ (gw_mem 59 (by decide +kernel))) hm_pa (by decide +kernel) ⟨Nat.le_trans (by decide) hR1.1, Nat.le_trans (by decide) hR1.2⟩ (kd10_putQuote_ok (9, .invokevirtual 283, 3) (List.mem_of_getElem? (i := 5) rfl))) (am_allc (am_ck_V (n := 1) X hEs hE (km10_put hE) (hg_good (gw_mem 1292 (by decide +kernel))) rfl (List.mem_cons_of_mem _ (gw_mem 76 (by decide +kernel))) (List.mem_cons_of_mem _ (gw_mem 1289 (by decide +kernel))) (List.mem_cons_of_mem _ (gw_mem 1291 (by decide +kernel))) (List.mem_cons_of_mem _ (gw_mem 49 (by decide +kernel))) hm_pa (by decide +kernel) ⟨Nat.le_trans (by decide) hR1.1, Nat.le_trans (by decide) hR1.2⟩ (kd10_putQuote_ok (24, .invokevirtual 259, 3) (List.mem_of_getElem? (i := 12) rfl))) (am_all0))
    exact hz _ (am_as_mem hq)
