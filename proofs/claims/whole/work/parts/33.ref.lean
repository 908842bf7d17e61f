noncomputable def ki10_put : List (Nat × Option (List Nat) × Nat × (List am_V → List am_C → Prop) × am_M) := []
noncomputable def kb10_put : am_B := (kd10_put, am_as kf10, hn_ty, fun _ => none, fun _ => none, am_as ki10_put, fun _ => none, 5, 2, none)
def fn10_put (s : hs) (p0 : Int32) : hs := (if (hm_full s) = 0 then (if (hm_size s) = (1000 : Int32) then (hu_full s (1 : Int32)) else (hu_size (hu_out (hu_full s (0 : Int32)) (upd (hm_out (hu_full s (0 : Int32))) ((hm_size (hu_full s (0 : Int32)))).toNatClampNeg (vp_nar .char p0))) ((hm_size (hu_out (hu_full s (0 : Int32)) (upd (hm_out (hu_full s (0 : Int32))) ((hm_size (hu_full s (0 : Int32)))).toNatClampNeg (vp_nar .char p0)))) + (1 : Int32)))) else (hu_full s (1 : Int32)))
def wp10_put (s : hs) (p0 : Int32) : Prop := (((hm_full s) = 0 → (((hm_size s) = (1000 : Int32) → True) ∧ (¬ (hm_size s) = (1000 : Int32) → (am_inb (hm_size (hu_full s (0 : Int32))) 1000 = true)))) ∧ (¬ (hm_full s) = 0 → True))
set_option maxRecDepth 100000 in
set_option maxHeartbeats 4000000 in
theorem re10_put (s : hs) (p0 : Int32) (hp : wp10_put s p0) : am_lf (am_mk kb10_put 0 0 22) [] (0, am_L0 [.inr (.inl 0), .inl p0] 2, [], hm_w s, 0, 0) = some (none, hm_w (fn10_put s p0)) := by
  unfold wp10_put at hp
  refine am_lf_eq ?_
  generalize am_lf (am_mk kb10_put 0 0 22) [] = kt
  refine am_if (c := (hm_full s) = 0) (fun h1 => ?_) (fun h1 => ?_)
  · have q1 := hp.1 h1
    refine am_if (c := (hm_size s) = (1000 : Int32)) (fun h2 => ?_) (fun h2 => ?_)
    · have e : fn10_put s p0 = (hu_full s (1 : Int32)) := by
        rw [fn10_put]
        rw [if_pos h1, if_pos h2]
      rw [e] <;> rfl
    · have q2 := q1.2 h2
      refine am_ci (c := am_inb (hm_size (hu_full s (0 : Int32))) 1000 = true) q2 ?_
      have e : fn10_put s p0 = (hu_size (hu_out (hu_full s (0 : Int32)) (upd (hm_out (hu_full s (0 : Int32))) ((hm_size (hu_full s (0 : Int32)))).toNatClampNeg (vp_nar .char p0))) ((hm_size (hu_out (hu_full s (0 : Int32)) (upd (hm_out (hu_full s (0 : Int32))) ((hm_size (hu_full s (0 : Int32)))).toNatClampNeg (vp_nar .char p0)))) + (1 : Int32))) := by
        rw [fn10_put]
        rw [if_pos h1, if_neg h2]
      rw [e] <;> rfl
  · have e : fn10_put s p0 = (hu_full s (1 : Int32)) := by
      rw [fn10_put]
      rw [if_neg h1]
    rw [e] <;> rfl
abbrev pr10_put : List am_V → List am_C → Prop := hm_pr (fun s is => match is with
  | [p0] => wp10_put s p0
  | _ => False)
def fm10_put : am_M := hm_fv (fun s is => match is with
  | [p0] => fn10_put s p0
  | _ => s)
set_option maxRecDepth 100000 in
set_option maxHeartbeats 4000000 in
theorem rn10_put : ∀ (a : List am_V) (w : List am_C), pr10_put a w → ∃ n, am_ev (am_mk kb10_put (fm10_put a w).2.2.1 (fm10_put a w).2.2.2 w.length) [] n (0, am_L0 a 2, [], w, 0, 0) = some ((fm10_put a w).1, (fm10_put a w).2.1) := by
  rintro a w ⟨s, is, rfl, rfl, hp⟩
  rcases is with _ | ⟨p0, _ | ⟨z, is⟩⟩
  · exact hp.elim
  · exact am_lf_ev (re10_put s p0 hp)
  · exact hp.elim
theorem rl10_put : ∀ (a : List am_V) (w : List am_C), pr10_put a w → a.length ≤ 2 := by
  rintro a w ⟨s, is, rfl, rfl, hp⟩
  rcases is with _ | ⟨p0, _ | ⟨z, is⟩⟩
  · exact hp.elim
  · exact Nat.le_of_ble_eq_true rfl
  · exact hp.elim
set_option maxRecDepth 100000 in
set_option maxHeartbeats 4000000 in
theorem km10_put {l : Launch} {E : (Nat → Prop) → State → Prop} {D : va_G} {ou : Nat → Nat} {ca : Nat → ClassId} (hE : am_EC E) : hg_Met l E D ou ca hy10_put prog_12_method_54_code 2 none 0 pr10_put fm10_put := by
  refine am_met (B := kb10_put) (cuts := []) (nt := 5) (by decide +kernel) rfl rfl (hg_tys_ok ca) ?_ (by decide) rl10_put ?_ rn10_put
  · exact fun t ht => List.mem_cons_of_mem _ (hg_arr t ht)
  · intro a w hp ad p e R s m args below meth c hR X hEs hnm
    have hR1 : 0 ≤ R.frames ∧ 0 ≤ R.locals := by rw [hR]; exact ⟨Nat.le_refl _, Nat.le_refl _⟩
    refine ⟨kd10_put_ok, fun index ci fi mode hq => kf10_ok X.2.2.2.2.1 (index, ci, fi, mode) (am_as_mem hq), fun index ci fs hq => (am_no hq).elim, fun x v hq => (am_no hq).elim, ?_, fun o n f hq => (am_no hq).elim, rfl, rfl, by rw [hR]; exact Nat.le_refl _, by rw [hR]; exact Nat.le_refl _⟩
    intro pc sel n0 pre0 f0 hq
    exact (am_no hq).elim
noncomputable def ki10_putHex : List (Nat × Option (List Nat) × Nat × (List am_V → List am_C → Prop) × am_M) := [(6, none, 2, pr10_hex, fm10_hex), (9, none, 2, pr10_put, fm10_put), (18, none, 2, pr10_hex, fm10_hex), (21, none, 2, pr10_put, fm10_put)]
noncomputable def kb10_putHex : am_B := (kd10_putHex, am_as kf10, hn_ty, fun _ => none, fun _ => none, am_as ki10_putHex, fun _ => none, 5, 2, none)
def fn10_putHex (s : hs) (p0 : Int32) : hs := (fn10_put (fn10_put s (fn10_hex s (p0 / (16 : Int32)))) (fn10_hex (fn10_put s (fn10_hex s (p0 / (16 : Int32)))) (p0 - p0 / (16 : Int32) * (16 : Int32))))
def wp10_putHex (s : hs) (p0 : Int32) : Prop := ((wp10_hex s (p0 / (16 : Int32))) ∧ ((wp10_put s (fn10_hex s (p0 / (16 : Int32)))) ∧ ((wp10_hex (fn10_put s (fn10_hex s (p0 / (16 : Int32)))) (p0 - p0 / (16 : Int32) * (16 : Int32))) ∧ (wp10_put (fn10_put s (fn10_hex s (p0 / (16 : Int32)))) (fn10_hex (fn10_put s (fn10_hex s (p0 / (16 : Int32)))) (p0 - p0 / (16 : Int32) * (16 : Int32)))))))
set_option maxRecDepth 100000 in
set_option maxHeartbeats 4000000 in
theorem re10_putHex (s : hs) (p0 : Int32) (hp : wp10_putHex s p0) : am_lf (am_mk kb10_putHex 0 0 22) [] (0, am_L0 [.inr (.inl 0), .inl p0] 2, [], hm_w s, 0, 0) = some (none, hm_w (fn10_putHex s p0)) := by
  unfold wp10_putHex at hp
  refine am_lf_eq ?_
  generalize am_lf (am_mk kb10_putHex 0 0 22) [] = kt
  refine am_cx (pre := pr10_hex) (f := fm10_hex) (r := (some (.inl (fn10_hex s (p0 / (16 : Int32)))), hm_w s, 0, 0)) ?_ ?_ ?_
  · exact ⟨s, [(p0 / (16 : Int32))], rfl, rfl, hp.1⟩
  · rfl
  refine am_cx (pre := pr10_put) (f := fm10_put) (r := (none, hm_w (fn10_put s (fn10_hex s (p0 / (16 : Int32)))), 0, 0)) ?_ ?_ ?_
  · exact ⟨s, [(fn10_hex s (p0 / (16 : Int32)))], rfl, rfl, hp.2.1⟩
  · rfl
  refine am_cx (pre := pr10_hex) (f := fm10_hex) (r := (some (.inl (fn10_hex (fn10_put s (fn10_hex s (p0 / (16 : Int32)))) (p0 - p0 / (16 : Int32) * (16 : Int32)))), hm_w ((fn10_put s (fn10_hex s (p0 / (16 : Int32))))), 0, 0)) ?_ ?_ ?_
  · exact ⟨(fn10_put s (fn10_hex s (p0 / (16 : Int32)))), [(p0 - p0 / (16 : Int32) * (16 : Int32))], rfl, rfl, hp.2.2.1⟩
  · rfl
  refine am_cx (pre := pr10_put) (f := fm10_put) (r := (none, hm_w (fn10_put (fn10_put s (fn10_hex s (p0 / (16 : Int32)))) (fn10_hex (fn10_put s (fn10_hex s (p0 / (16 : Int32)))) (p0 - p0 / (16 : Int32) * (16 : Int32)))), 0, 0)) ?_ ?_ ?_
  · exact ⟨(fn10_put s (fn10_hex s (p0 / (16 : Int32)))), [(fn10_hex (fn10_put s (fn10_hex s (p0 / (16 : Int32)))) (p0 - p0 / (16 : Int32) * (16 : Int32)))], rfl, rfl, hp.2.2.2⟩
  · rfl
  rfl
abbrev pr10_putHex : List am_V → List am_C → Prop := hm_pr (fun s is => match is with
  | [p0] => wp10_putHex s p0
  | _ => False)
def fm10_putHex : am_M := hm_fv (fun s is => match is with
  | [p0] => fn10_putHex s p0
  | _ => s)
set_option maxRecDepth 100000 in
set_option maxHeartbeats 4000000 in
theorem rn10_putHex : ∀ (a : List am_V) (w : List am_C), pr10_putHex a w → ∃ n, am_ev (am_mk kb10_putHex (fm10_putHex a w).2.2.1 (fm10_putHex a w).2.2.2 w.length) [] n (0, am_L0 a 2, [], w, 0, 0) = some ((fm10_putHex a w).1, (fm10_putHex a w).2.1) := by
  rintro a w ⟨s, is, rfl, rfl, hp⟩
  rcases is with _ | ⟨p0, _ | ⟨z, is⟩⟩
  · exact hp.elim
  · exact am_lf_ev (re10_putHex s p0 hp)
  · exact hp.elim
theorem rl10_putHex : ∀ (a : List am_V) (w : List am_C), pr10_putHex a w → a.length ≤ 2 := by
  rintro a w ⟨s, is, rfl, rfl, hp⟩
  rcases is with _ | ⟨p0, _ | ⟨z, is⟩⟩
  · exact hp.elim
  · exact Nat.le_of_ble_eq_true rfl
  · exact hp.elim
set_option maxRecDepth 100000 in
set_option maxHeartbeats 4000000 in
theorem km10_putHex {l : Launch} {E : (Nat → Prop) → State → Prop} {D : va_G} {ou : Nat → Nat} {ca : Nat → ClassId} (hE : am_EC E) : hg_Met l E D ou ca hy10_putHex prog_12_method_56_code 2 none 1 pr10_putHex fm10_putHex := by
  refine am_met (B := kb10_putHex) (cuts := []) (nt := 5) (by decide +kernel) rfl rfl (hg_tys_ok ca) ?_ (by decide) rl10_putHex ?_ rn10_putHex
  · exact fun t ht => List.mem_cons_of_mem _ (hg_arr t ht)
  · intro a w hp ad p e R s m args below meth c hR X hEs hnm
    have hR1 : 1 ≤ R.frames ∧ 40 ≤ R.locals := by rw [hR]; exact ⟨Nat.le_refl _, Nat.le_refl _⟩
    refine ⟨kd10_putHex_ok, fun index ci fi mode hq => kf10_ok X.2.2.2.2.1 (index, ci, fi, mode) (am_as_mem hq), fun index ci fs hq => (am_no hq).elim, fun x v hq => (am_no hq).elim, ?_, fun o n f hq => (am_no hq).elim, rfl, rfl, by rw [hR]; exact Nat.le_refl _, by rw [hR]; exact Nat.le_refl _⟩
    intro pc sel n0 pre0 f0 hq
    have hz : ∀ q ∈ ki10_putHex, am_CK p l e R s m args below meth c D hn_cl (va_A (am_w ad ou ca w) s.heap.size) ou ca 2 q.1 q.2.2.1 q.2.2.2.1 q.2.2.2.2 := by
      refine am_allc (am_ck_V (n := 1) X hEs hE (km10_hex hE) (hg_good (gw_mem 1347 (by decide +kernel))) rfl (List.mem_cons_of_mem _ (gw_mem 76 (by decide +kernel))) (List.mem_cons_of_mem _ (gw_mem 1344 (by decide +kernel))) (List.mem_cons_of_mem _ (gw_mem 1346 (by decide +kernel))) (List.mem_cons_of_mem _ (gw_mem 62 (by decide +kernel))) hm_pa (by decide +kernel) ⟨Nat.le_trans (by decide) hR1.1, Nat.le_trans (by decide) hR1.2⟩ (kd10_putHex_ok (6, .invokevirtual 256, 3) (List.mem_of_getElem? (i := 5) rfl))) (am_allc (am_ck_V (n := 1) X hEs hE (km10_put hE) (hg_good (gw_mem 1292 (by decide +kernel))) rfl (List.mem_cons_of_mem _ (gw_mem 76 (by decide +kernel))) (List.mem_cons_of_mem _ (gw_mem 1289 (by decide +kernel))) (List.mem_cons_of_mem _ (gw_mem 1291 (by decide +kernel))) (List.mem_cons_of_mem _ (gw_mem 49 (by decide +kernel))) hm_pa (by decide +kernel) ⟨Nat.le_trans (by decide) hR1.1, Nat.le_trans (by decide) hR1.2⟩ (kd10_putHex_ok (9, .invokevirtual 259, 3) (List.mem_of_getElem? (i := 6) rfl))) (am_allc (am_ck_V (n := 1) X hEs hE (km10_hex hE) (hg_good (gw_mem 1347 (by decide +kernel))) rfl (List.mem_cons_of_mem _ (gw_mem 76 (by decide +kernel))) (List.mem_cons_of_mem _ (gw_mem 1344 (by decide +kernel))) (List.mem_cons_of_mem _ (gw_mem 1346 (by decide +kernel))) (List.mem_cons_of_mem _ (gw_mem 62 (by decide +kernel))) hm_pa (by decide +kernel) ⟨Nat.le_trans (by decide) hR1.1, Nat.le_trans (by decide) hR1.2⟩ (kd10_putHex_ok (18, .invokevirtual 256, 3) (List.mem_of_getElem? (i := 12) rfl))) (am_allc (am_ck_V (n := 1) X hEs hE (km10_put hE) (hg_good (gw_mem 1292 (by decide +kernel))) rfl (List.mem_cons_of_mem _ (gw_mem 76 (by decide +kernel))) (List.mem_cons_of_mem _ (gw_mem 1289 (by decide +kernel))) (List.mem_cons_of_mem _ (gw_mem 1291 (by decide +kernel))) (List.mem_cons_of_mem _ (gw_mem 49 (by decide +kernel))) hm_pa (by decide +kernel) ⟨Nat.le_trans (by decide) hR1.1, Nat.le_trans (by decide) hR1.2⟩ (kd10_putHex_ok (21, .invokevirtual 259, 3) (List.mem_of_getElem? (i := 13) rfl))) (am_all0))))
    exact hz _ (am_as_mem hq)
