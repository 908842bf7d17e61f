theorem hm_fv_w (F : hs → List Int32 → hs) (X : hs) (is : List Int32) : hm_fv F (.inr (.inl 0) :: is.map Sum.inl) (hm_w X) = (none, hm_w (F X is), 0, 0) := by
  have e : (((.inr (.inl 0) : am_V) :: is.map Sum.inl).tail.map am_i) = is := by
    induction is with
    | nil => rfl
    | cons a r ih => simpa [am_i] using ih
  unfold hm_fv
  rw [e, hm_st_w]
noncomputable def ki10_put5 : List (Nat × Option (List Nat) × Nat × (List am_V → List am_C → Prop) × am_M) := [(2, none, 2, pr10_put, fm10_put), (7, none, 2, pr10_put, fm10_put), (12, none, 2, pr10_put, fm10_put), (18, none, 2, pr10_put, fm10_put), (29, none, 2, pr10_put, fm10_put)]
noncomputable def kb10_put5 : am_B := (kd10_put5, am_as kf10, hn_ty, fun _ => none, fun _ => none, am_as ki10_put5, fun _ => none, 5, 6, none)
def fn10_put5 (s : hs) (p0 : Int32) (p1 : Int32) (p2 : Int32) (p3 : Int32) (p4 : Int32) : hs := (if p4 = 0 then (fn10_put (fn10_put (fn10_put (fn10_put s p0) p1) p2) p3) else (fn10_put (fn10_put (fn10_put (fn10_put (fn10_put s p0) p1) p2) p3) p4))
def wp10_put5 (s : hs) (p0 : Int32) (p1 : Int32) (p2 : Int32) (p3 : Int32) (p4 : Int32) : Prop := ((wp10_put s p0) ∧ ((wp10_put (fn10_put s p0) p1) ∧ ((wp10_put (fn10_put (fn10_put s p0) p1) p2) ∧ ((wp10_put (fn10_put (fn10_put (fn10_put s p0) p1) p2) p3) ∧ ((p4 = 0 → True) ∧ (¬ p4 = 0 → (wp10_put (fn10_put (fn10_put (fn10_put (fn10_put s p0) p1) p2) p3) p4)))))))
set_option maxRecDepth 100000 in
set_option maxHeartbeats 4000000 in
theorem re10_put5 (s : hs) (p0 : Int32) (p1 : Int32) (p2 : Int32) (p3 : Int32) (p4 : Int32) (hp : wp10_put5 s p0 p1 p2 p3 p4) : am_lf (am_mk kb10_put5 0 0 22) [] (0, am_L0 [.inr (.inl 0), .inl p0, .inl p1, .inl p2, .inl p3, .inl p4] 6, [], hm_w s, 0, 0) = some (none, hm_w (fn10_put5 s p0 p1 p2 p3 p4)) := by
  unfold wp10_put5 at hp
  refine am_lf_eq ?_
  generalize am_lf (am_mk kb10_put5 0 0 22) [] = kt
  refine am_cx (pre := pr10_put) (f := fm10_put) (r := (none, hm_w (fn10_put s p0), 0, 0)) ?_ ?_ ?_
  · exact ⟨s, [p0], rfl, rfl, hp.1⟩
  · exact hm_fv_w _ _ [_]
  refine am_cx (pre := pr10_put) (f := fm10_put) (r := (none, hm_w (fn10_put (fn10_put s p0) p1), 0, 0)) ?_ ?_ ?_
  · exact ⟨(fn10_put s p0), [p1], rfl, rfl, hp.2.1⟩
  · exact hm_fv_w _ _ [_]
  refine am_cx (pre := pr10_put) (f := fm10_put) (r := (none, hm_w (fn10_put (fn10_put (fn10_put s p0) p1) p2), 0, 0)) ?_ ?_ ?_
  · exact ⟨(fn10_put (fn10_put s p0) p1), [p2], rfl, rfl, hp.2.2.1⟩
  · exact hm_fv_w _ _ [_]
  refine am_cx (pre := pr10_put) (f := fm10_put) (r := (none, hm_w (fn10_put (fn10_put (fn10_put (fn10_put s p0) p1) p2) p3), 0, 0)) ?_ ?_ ?_
  · exact ⟨(fn10_put (fn10_put (fn10_put s p0) p1) p2), [p3], rfl, rfl, hp.2.2.2.1⟩
  · exact hm_fv_w _ _ [_]
  refine am_if (c := p4 = 0) (fun h1 => ?_) (fun h1 => ?_)
  · have e : fn10_put5 s p0 p1 p2 p3 p4 = (fn10_put (fn10_put (fn10_put (fn10_put s p0) p1) p2) p3) := by
      rw [fn10_put5]
      rw [if_pos h1]
    rw [e] <;> rfl
  · have q1 := hp.2.2.2.2.2 h1
    refine am_cx (pre := pr10_put) (f := fm10_put) (r := (none, hm_w (fn10_put (fn10_put (fn10_put (fn10_put (fn10_put s p0) p1) p2) p3) p4), 0, 0)) ?_ ?_ ?_
    · exact ⟨(fn10_put (fn10_put (fn10_put (fn10_put s p0) p1) p2) p3), [p4], rfl, rfl, q1⟩
    · exact hm_fv_w _ _ [_]
    have e : fn10_put5 s p0 p1 p2 p3 p4 = (fn10_put (fn10_put (fn10_put (fn10_put (fn10_put s p0) p1) p2) p3) p4) := by
      rw [fn10_put5]
      rw [if_neg h1]
    rw [e] <;> rfl
abbrev pr10_put5 : List am_V → List am_C → Prop := hm_pr (fun s is => match is with
  | [p0, p1, p2, p3, p4] => wp10_put5 s p0 p1 p2 p3 p4
  | _ => False)
def fm10_put5 : am_M := hm_fv (fun s is => match is with
  | [p0, p1, p2, p3, p4] => fn10_put5 s p0 p1 p2 p3 p4
  | _ => s)
set_option maxRecDepth 100000 in
set_option maxHeartbeats 4000000 in
theorem rn10_put5 : ∀ (a : List am_V) (w : List am_C), pr10_put5 a w → ∃ n, am_ev (am_mk kb10_put5 (fm10_put5 a w).2.2.1 (fm10_put5 a w).2.2.2 w.length) [] n (0, am_L0 a 6, [], w, 0, 0) = some ((fm10_put5 a w).1, (fm10_put5 a w).2.1) := by
  rintro a w ⟨s, is, rfl, rfl, hp⟩
  rcases is with _ | ⟨p0, _ | ⟨p1, _ | ⟨p2, _ | ⟨p3, _ | ⟨p4, _ | ⟨z, is⟩⟩⟩⟩⟩⟩
  · exact hp.elim
  · exact hp.elim
  · exact hp.elim
  · exact hp.elim
  · exact hp.elim
  · exact am_lf_ev (re10_put5 s p0 p1 p2 p3 p4 hp)
  · exact hp.elim
theorem rl10_put5 : ∀ (a : List am_V) (w : List am_C), pr10_put5 a w → a.length ≤ 6 := by
  rintro a w ⟨s, is, rfl, rfl, hp⟩
  rcases is with _ | ⟨p0, _ | ⟨p1, _ | ⟨p2, _ | ⟨p3, _ | ⟨p4, _ | ⟨z, is⟩⟩⟩⟩⟩⟩
  · exact hp.elim
  · exact hp.elim
  · exact hp.elim
  · exact hp.elim
  · exact hp.elim
  · exact Nat.le_of_ble_eq_true rfl
  · exact hp.elim
set_option maxRecDepth 100000 in
set_option maxHeartbeats 4000000 in
theorem km10_put5 {l : Launch} {E : (Nat → Prop) → State → Prop} {D : va_G} {ou : Nat → Nat} {ca : Nat → ClassId} (hE : am_EC E) : hg_Met l E D ou ca hy10_put5 prog_12_method_57_code 6 none 1 pr10_put5 fm10_put5 := by
  refine am_met (B := kb10_put5) (cuts := []) (nt := 5) (by decide +kernel) rfl rfl (hg_tys_ok ca) ?_ (by decide) rl10_put5 ?_ rn10_put5
  · exact fun t ht => List.mem_cons_of_mem _ (hg_arr t ht)
  · intro a w hp ad p e R s m args below meth c hR X hEs hnm
    have hR1 : 1 ≤ R.frames ∧ 40 ≤ R.locals := by rw [hR]; exact ⟨Nat.le_refl _, Nat.le_refl _⟩
    refine ⟨kd10_put5_ok, fun index ci fi mode hq => kf10_ok X.2.2.2.2.1 (index, ci, fi, mode) (am_as_mem hq), fun index ci fs hq => (am_no hq).elim, fun x v hq => (am_no hq).elim, ?_, fun o n f hq => (am_no hq).elim, rfl, rfl, by rw [hR]; exact Nat.le_refl _, by rw [hR]; exact Nat.le_refl _⟩
    intro pc sel n0 pre0 f0 hq
    have hz : ∀ q ∈ ki10_put5, am_CK p l e R s m args below meth c D hn_cl (va_A (am_w ad ou ca w) s.heap.size) ou ca 6 q.1 q.2.2.1 q.2.2.2.1 q.2.2.2.2 := by
      refine am_allc (am_ck_V (n := 1) X hEs hE (km10_put hE) (hg_good (gw_mem 1292 (by decide +kernel))) rfl (List.mem_cons_of_mem _ (gw_mem 76 (by decide +kernel))) (List.mem_cons_of_mem _ (gw_mem 1289 (by decide +kernel))) (List.mem_cons_of_mem _ (gw_mem 1291 (by decide +kernel))) (List.mem_cons_of_mem _ (gw_mem 49 (by decide +kernel))) hm_pa (by decide +kernel) ⟨Nat.le_trans (by decide) hR1.1, Nat.le_trans (by decide) hR1.2⟩ (kd10_put5_ok (2, .invokevirtual 259, 3) (List.mem_of_getElem? (i := 2) rfl))) (am_allc (am_ck_V (n := 1) X hEs hE (km10_put hE) (hg_good (gw_mem 1292 (by decide +kernel))) rfl (List.mem_cons_of_mem _ (gw_mem 76 (by decide +kernel))) (List.mem_cons_of_mem _ (gw_mem 1289 (by decide +kernel))) (List.mem_cons_of_mem _ (gw_mem 1291 (by decide +kernel))) (List.mem_cons_of_mem _ (gw_mem 49 (by decide +kernel))) hm_pa (by decide +kernel) ⟨Nat.le_trans (by decide) hR1.1, Nat.le_trans (by decide) hR1.2⟩ (kd10_put5_ok (7, .invokevirtual 259, 3) (List.mem_of_getElem? (i := 5) rfl))) (am_allc (am_ck_V (n := 1) X hEs hE (km10_put hE) (hg_good (gw_mem 1292 (by decide +kernel))) rfl (List.mem_cons_of_mem _ (gw_mem 76 (by decide +kernel))) (List.mem_cons_of_mem _ (gw_mem 1289 (by decide +kernel))) (List.mem_cons_of_mem _ (gw_mem 1291 (by decide +kernel))) (List.mem_cons_of_mem _ (gw_mem 49 (by decide +kernel))) hm_pa (by decide +kernel) ⟨Nat.le_trans (by decide) hR1.1, Nat.le_trans (by decide) hR1.2⟩ (kd10_put5_ok (12, .invokevirtual 259, 3) (List.mem_of_getElem? (i := 8) rfl))) (am_allc (am_ck_V (n := 1) X hEs hE (km10_put hE) (hg_good (gw_mem 1292 (by decide +kernel))) rfl (List.mem_cons_of_mem _ (gw_mem 76 (by decide +kernel))) (List.mem_cons_of_mem _ (gw_mem 1289 (by decide +kernel))) (List.mem_cons_of_mem _ (gw_mem 1291 (by decide +kernel))) (List.mem_cons_of_mem _ (gw_mem 49 (by decide +kernel))) hm_pa (by decide +kernel) ⟨Nat.le_trans (by decide) hR1.1, Nat.le_trans (by decide) hR1.2⟩ (kd10_put5_ok (18, .invokevirtual 259, 3) (List.mem_of_getElem? (i := 11) rfl))) (am_allc (am_ck_V (n := 1) X hEs hE (km10_put hE) (hg_good (gw_mem 1292 (by decide +kernel))) rfl (List.mem_cons_of_mem _ (gw_mem 76 (by decide +kernel))) (List.mem_cons_of_mem _ (gw_mem 1289 (by decide +kernel))) (List.mem_cons_of_mem _ (gw_mem 1291 (by decide +kernel))) (List.mem_cons_of_mem _ (gw_mem 49 (by decide +kernel))) hm_pa (by decide +kernel) ⟨Nat.le_trans (by decide) hR1.1, Nat.le_trans (by decide) hR1.2⟩ (kd10_put5_ok (29, .invokevirtual 259, 3) (List.mem_of_getElem? (i := 16) rfl))) (am_all0)))))
    exact hz _ (am_as_mem hq)
noncomputable def ki10_putCode : List (Nat × Option (List Nat) × Nat × (List am_V → List am_C → Prop) × am_M) := [(1, some [], 1, pr10_staysInCode, fm10_staysInCode), (9, none, 2, pr10_put, fm10_put), (16, none, 2, pr10_put, fm10_put), (26, none, 2, pr10_put, fm10_put), (31, none, 2, pr10_putHex, fm10_putHex), (41, none, 2, pr10_put, fm10_put)]
noncomputable def kb10_putCode : am_B := (kd10_putCode, am_as kf10, hn_ty, fun _ => none, fun _ => none, am_as ki10_putCode, fun _ => none, 5, 3, none)
def fn10_putCode (s : hs) (p0 : Int32) (p1 : Int32) : hs := (if (fn10_staysInCode p0) = 0 then (if p1 = 0 then (fn10_putHex (fn10_put (fn10_put s (92 : Int32)) (120 : Int32)) p0) else (fn10_put (fn10_putHex (fn10_put s (92 : Int32)) p0) (32 : Int32))) else (fn10_put s p0))
def wp10_putCode (s : hs) (p0 : Int32) (p1 : Int32) : Prop := ((wp10_staysInCode p0) ∧ (((fn10_staysInCode p0) = 0 → ((wp10_put s (92 : Int32)) ∧ ((p1 = 0 → ((wp10_put (fn10_put s (92 : Int32)) (120 : Int32)) ∧ (wp10_putHex (fn10_put (fn10_put s (92 : Int32)) (120 : Int32)) p0))) ∧ (¬ p1 = 0 → ((wp10_putHex (fn10_put s (92 : Int32)) p0) ∧ (wp10_put (fn10_putHex (fn10_put s (92 : Int32)) p0) (32 : Int32))))))) ∧ (¬ (fn10_staysInCode p0) = 0 → (wp10_put s p0))))
set_option maxRecDepth 100000 in
set_option maxHeartbeats 4000000 in
theorem re10_putCode (s : hs) (p0 : Int32) (p1 : Int32) (hp : wp10_putCode s p0 p1) : am_lf (am_mk kb10_putCode 0 0 22) [] (0, am_L0 [.inr (.inl 0), .inl p0, .inl p1] 3, [], hm_w s, 0, 0) = some (none, hm_w (fn10_putCode s p0 p1)) := by
  unfold wp10_putCode at hp
  refine am_lf_eq ?_
  generalize am_lf (am_mk kb10_putCode 0 0 22) [] = kt
  refine am_cy (pre := pr10_staysInCode) (f := fm10_staysInCode) (r := (some (.inl (fn10_staysInCode p0)), [], 0, 0)) ?_ ?_ ?_
  · exact ⟨[p0], rfl, rfl, hp.1⟩
  · rfl
  refine am_if (c := (fn10_staysInCode p0) = 0) (fun h1 => ?_) (fun h1 => ?_)
  · have q1 := hp.2.1 h1
    refine am_cx (pre := pr10_put) (f := fm10_put) (r := (none, hm_w (fn10_put s (92 : Int32)), 0, 0)) ?_ ?_ ?_
    · exact ⟨s, [(92 : Int32)], rfl, rfl, q1.1⟩
    · exact hm_fv_w _ _ [_]
    refine am_if (c := p1 = 0) (fun h2 => ?_) (fun h2 => ?_)
    · have q2 := q1.2.1 h2
      refine am_cx (pre := pr10_put) (f := fm10_put) (r := (none, hm_w (fn10_put (fn10_put s (92 : Int32)) (120 : Int32)), 0, 0)) ?_ ?_ ?_
      · exact ⟨(fn10_put s (92 : Int32)), [(120 : Int32)], rfl, rfl, q2.1⟩
      · exact hm_fv_w _ _ [_]
      refine am_cx (pre := pr10_putHex) (f := fm10_putHex) (r := (none, hm_w (fn10_putHex (fn10_put (fn10_put s (92 : Int32)) (120 : Int32)) p0), 0, 0)) ?_ ?_ ?_
      · exact ⟨(fn10_put (fn10_put s (92 : Int32)) (120 : Int32)), [p0], rfl, rfl, q2.2⟩
      · exact hm_fv_w _ _ [_]
      refine am_ci (c := p1 = 0) (by assumption) ?_
      have e : fn10_putCode s p0 p1 = (fn10_putHex (fn10_put (fn10_put s (92 : Int32)) (120 : Int32)) p0) := by
        rw [fn10_putCode]
        rw [if_pos h1, if_pos h2]
      rw [e] <;> rfl
    · have q2 := q1.2.2 h2
      refine am_cx (pre := pr10_putHex) (f := fm10_putHex) (r := (none, hm_w (fn10_putHex (fn10_put s (92 : Int32)) p0), 0, 0)) ?_ ?_ ?_
      · exact ⟨(fn10_put s (92 : Int32)), [p0], rfl, rfl, q2.1⟩
      · exact hm_fv_w _ _ [_]
      refine am_cn (c := p1 = 0) (by assumption) ?_
      refine am_cx (pre := pr10_put) (f := fm10_put) (r := (none, hm_w (fn10_put (fn10_putHex (fn10_put s (92 : Int32)) p0) (32 : Int32)), 0, 0)) ?_ ?_ ?_
      · exact ⟨(fn10_putHex (fn10_put s (92 : Int32)) p0), [(32 : Int32)], rfl, rfl, q2.2⟩
      · exact hm_fv_w _ _ [_]
      have e : fn10_putCode s p0 p1 = (fn10_put (fn10_putHex (fn10_put s (92 : Int32)) p0) (32 : Int32)) := by
        rw [fn10_putCode]
        rw [if_pos h1, if_neg h2]
      rw [e] <;> rfl
  · have q1 := hp.2.2 h1
    refine am_cx (pre := pr10_put) (f := fm10_put) (r := (none, hm_w (fn10_put s p0), 0, 0)) ?_ ?_ ?_
    · exact ⟨s, [p0], rfl, rfl, q1⟩
    · exact hm_fv_w _ _ [_]
    have e : fn10_putCode s p0 p1 = (fn10_put s p0) := by
      rw [fn10_putCode]
      rw [if_neg h1]
    rw [e] <;> rfl
abbrev pr10_putCode : List am_V → List am_C → Prop := hm_pr (fun s is => match is with
  | [p0, p1] => wp10_putCode s p0 p1
  | _ => False)
def fm10_putCode : am_M := hm_fv (fun s is => match is with
  | [p0, p1] => fn10_putCode s p0 p1
  | _ => s)
set_option maxRecDepth 100000 in
set_option maxHeartbeats 4000000 in
theorem rn10_putCode : ∀ (a : List am_V) (w : List am_C), pr10_putCode a w → ∃ n, am_ev (am_mk kb10_putCode (fm10_putCode a w).2.2.1 (fm10_putCode a w).2.2.2 w.length) [] n (0, am_L0 a 3, [], w, 0, 0) = some ((fm10_putCode a w).1, (fm10_putCode a w).2.1) := by
  rintro a w ⟨s, is, rfl, rfl, hp⟩
  rcases is with _ | ⟨p0, _ | ⟨p1, _ | ⟨z, is⟩⟩⟩
  · exact hp.elim
  · exact hp.elim
  · exact am_lf_ev (re10_putCode s p0 p1 hp)
  · exact hp.elim
theorem rl10_putCode : ∀ (a : List am_V) (w : List am_C), pr10_putCode a w → a.length ≤ 3 := by
  rintro a w ⟨s, is, rfl, rfl, hp⟩
  rcases is with _ | ⟨p0, _ | ⟨p1, _ | ⟨z, is⟩⟩⟩
  · exact hp.elim
  · exact hp.elim
  · exact Nat.le_of_ble_eq_true rfl
  · exact hp.elim
set_option maxRecDepth 100000 in
set_option maxHeartbeats 4000000 in
theorem km10_putCode {l : Launch} {E : (Nat → Prop) → State → Prop} {D : va_G} {ou : Nat → Nat} {ca : Nat → ClassId} (hE : am_EC E) : hg_Met l E D ou ca hy10_putCode prog_12_method_65_code 3 none 3 pr10_putCode fm10_putCode := by
  refine am_met (B := kb10_putCode) (cuts := []) (nt := 5) (by decide +kernel) rfl rfl (hg_tys_ok ca) ?_ (by decide) rl10_putCode ?_ rn10_putCode
  · exact fun t ht => List.mem_cons_of_mem _ (hg_arr t ht)
  · intro a w hp ad p e R s m args below meth c hR X hEs hnm
    have hR1 : 3 ≤ R.frames ∧ 120 ≤ R.locals := by rw [hR]; exact ⟨Nat.le_refl _, Nat.le_refl _⟩
    refine ⟨kd10_putCode_ok, fun index ci fi mode hq => kf10_ok X.2.2.2.2.1 (index, ci, fi, mode) (am_as_mem hq), fun index ci fs hq => (am_no hq).elim, fun x v hq => (am_no hq).elim, ?_, fun o n f hq => (am_no hq).elim, rfl, rfl, by rw [hR]; exact Nat.le_refl _, by rw [hR]; exact Nat.le_refl _⟩
    intro pc sel n0 pre0 f0 hq
    have hz : ∀ q ∈ ki10_putCode, am_CK p l e R s m args below meth c D hn_cl (va_A (am_w ad ou ca w) s.heap.size) ou ca 3 q.1 q.2.2.1 q.2.2.2.1 q.2.2.2.2 := by
      refine am_allc (am_ck_S (n := 1) X hEs hE (km10_staysInCode hE) (hg_good (gw_mem 1354 (by decide +kernel))) rfl (List.mem_cons_of_mem _ (gw_mem 76 (by decide +kernel))) (List.mem_cons_of_mem _ (gw_mem 1352 (by decide +kernel))) (List.mem_cons_of_mem _ (gw_mem 1353 (by decide +kernel))) (by decide +kernel) ⟨Nat.le_trans (by decide) hR1.1, Nat.le_trans (by decide) hR1.2⟩ (kd10_putCode_ok (1, .invokestatic 280, 3) (List.mem_of_getElem? (i := 1) rfl))) (am_allc (am_ck_V (n := 1) X hEs hE (km10_put hE) (hg_good (gw_mem 1292 (by decide +kernel))) rfl (List.mem_cons_of_mem _ (gw_mem 76 (by decide +kernel))) (List.mem_cons_of_mem _ (gw_mem 1289 (by decide +kernel))) (List.mem_cons_of_mem _ (gw_mem 1291 (by decide +kernel))) (List.mem_cons_of_mem _ (gw_mem 49 (by decide +kernel))) hm_pa (by decide +kernel) ⟨Nat.le_trans (by decide) hR1.1, Nat.le_trans (by decide) hR1.2⟩ (kd10_putCode_ok (9, .invokevirtual 259, 3) (List.mem_of_getElem? (i := 5) rfl))) (am_allc (am_ck_V (n := 1) X hEs hE (km10_put hE) (hg_good (gw_mem 1292 (by decide +kernel))) rfl (List.mem_cons_of_mem _ (gw_mem 76 (by decide +kernel))) (List.mem_cons_of_mem _ (gw_mem 1289 (by decide +kernel))) (List.mem_cons_of_mem _ (gw_mem 1291 (by decide +kernel))) (List.mem_cons_of_mem _ (gw_mem 49 (by decide +kernel))) hm_pa (by decide +kernel) ⟨Nat.le_trans (by decide) hR1.1, Nat.le_trans (by decide) hR1.2⟩ (kd10_putCode_ok (16, .invokevirtual 259, 3) (List.mem_of_getElem? (i := 9) rfl))) (am_allc (am_ck_V (n := 1) X hEs hE (km10_put hE) (hg_good (gw_mem 1292 (by decide +kernel))) rfl (List.mem_cons_of_mem _ (gw_mem 76 (by decide +kernel))) (List.mem_cons_of_mem _ (gw_mem 1289 (by decide +kernel))) (List.mem_cons_of_mem _ (gw_mem 1291 (by decide +kernel))) (List.mem_cons_of_mem _ (gw_mem 49 (by decide +kernel))) hm_pa (by decide +kernel) ⟨Nat.le_trans (by decide) hR1.1, Nat.le_trans (by decide) hR1.2⟩ (kd10_putCode_ok (26, .invokevirtual 259, 3) (List.mem_of_getElem? (i := 14) rfl))) (am_allc (am_ck_V (n := 1) X hEs hE (km10_putHex hE) (hg_good (gw_mem 1343 (by decide +kernel))) rfl (List.mem_cons_of_mem _ (gw_mem 76 (by decide +kernel))) (List.mem_cons_of_mem _ (gw_mem 1340 (by decide +kernel))) (List.mem_cons_of_mem _ (gw_mem 1342 (by decide +kernel))) (List.mem_cons_of_mem _ (gw_mem 61 (by decide +kernel))) hm_pa (by decide +kernel) ⟨Nat.le_trans (by decide) hR1.1, Nat.le_trans (by decide) hR1.2⟩ (kd10_putCode_ok (31, .invokevirtual 270, 3) (List.mem_of_getElem? (i := 17) rfl))) (am_allc (am_ck_V (n := 1) X hEs hE (km10_put hE) (hg_good (gw_mem 1292 (by decide +kernel))) rfl (List.mem_cons_of_mem _ (gw_mem 76 (by decide +kernel))) (List.mem_cons_of_mem _ (gw_mem 1289 (by decide +kernel))) (List.mem_cons_of_mem _ (gw_mem 1291 (by decide +kernel))) (List.mem_cons_of_mem _ (gw_mem 49 (by decide +kernel))) hm_pa (by decide +kernel) ⟨Nat.le_trans (by decide) hR1.1, Nat.le_trans (by decide) hR1.2⟩ (kd10_putCode_ok (41, .invokevirtual 259, 3) (List.mem_of_getElem? (i := 22) rfl))) (am_all0))))))
    exact hz _ (am_as_mem hq)
