noncomputable def ki5_turn : List (Nat × Option (List Nat) × Nat × (List am_V → List am_C → Prop) × am_M) := [(2, none, 2, pr5_has, fm5_has)]
noncomputable def kb5_turn : am_B := (kd5_turn, am_as kf5, hn_ty, fun _ => none, fun _ => none, am_as ki5_turn, fun _ => none, 5, 2, (some .int))
noncomputable def fn5_turn (x : qt5) (p0 : Int32) : Int32 := Classical.choose (⟨_, rfl⟩ : ∃ z : Int32, z = (if (fn5_has x p0) = 0 then p0 else ((qg5_turns x) (p0).toNatClampNeg)))
theorem fq5_turn (x : qt5) (p0 : Int32) : fn5_turn x p0 = (if (fn5_has x p0) = 0 then p0 else ((qg5_turns x) (p0).toNatClampNeg)) := Classical.choose_spec (⟨_, rfl⟩ : ∃ z : Int32, z = (if (fn5_has x p0) = 0 then p0 else ((qg5_turns x) (p0).toNatClampNeg)))
def wp5_turn (x : qt5) (p0 : Int32) : Prop := ((wp5_has x p0) ∧ (((fn5_has x p0) = 0 → True) ∧ (¬ (fn5_has x p0) = 0 → (am_inb p0 240 = true))))
set_option maxRecDepth 100000 in
set_option maxHeartbeats 4000000 in
theorem re5_turn (x : qt5) (p0 : Int32) (hp : wp5_turn x p0) : am_lf (am_mk kb5_turn 0 0 8) [] (0, am_L0 [.inr (.inl 0), .inl p0] 2, [], (kw_S x), 0, 0) = some (some (.inl (fn5_turn x p0)), (kw_S x)) := by
  unfold wp5_turn at hp
  refine am_lf_eq ?_
  generalize am_lf (am_mk kb5_turn 0 0 8) [] = kt
  refine am_cx (pre := pr5_has) (f := fm5_has) (r := (some (.inl (fn5_has x p0)), (kw_S x), 0, 0)) ?_ ?_ ?_ ?_
  · exact ⟨x, p0, rfl, rfl, hp.1⟩
  · exact fe5_has x p0
  · exact rfl
  refine am_if (c := (fn5_has x p0) = 0) (fun h1 => ?_) (fun h1 => ?_)
  · have e : fn5_turn x p0 = p0 := by
      rw [fq5_turn]
      rw [if_pos h1]
    rw [e] <;> rfl
  · have q1 := hp.2.2 h1
    refine am_ci (c := am_inb p0 240 = true) q1 ?_
    have e : fn5_turn x p0 = ((qg5_turns x) (p0).toNatClampNeg) := by
      rw [fq5_turn]
      rw [if_neg h1]
    rw [e] <;> rfl
abbrev pr5_turn : List am_V → List am_C → Prop := fun a w => ∃ (x : qt5) (p0 : Int32), a = [.inr (.inl 0), .inl p0] ∧ w = (kw_S x) ∧ wp5_turn x p0
noncomputable def fm5_turn : am_M := fun a w => (fun (z : Int32) => (some (.inl z), (kw_S (qs5 w 0)), 0, 0)) (fn5_turn (qs5 w 0) (am_i (am_an a 1)))
theorem fe5_turn (x : qt5) (p0 : Int32) : fm5_turn [.inr (.inl 0), .inl p0] (kw_S x) = (some (.inl (fn5_turn x p0)), (kw_S x), 0, 0) := rfl
set_option maxRecDepth 100000 in
set_option maxHeartbeats 4000000 in
theorem rn5_turn : ∀ (a : List am_V) (w : List am_C), pr5_turn a w → ∃ nq, am_ev (am_mk kb5_turn (fm5_turn a w).2.2.1 (fm5_turn a w).2.2.2 w.length) [] nq (0, am_L0 a 2, [], w, 0, 0) = some ((fm5_turn a w).1, (fm5_turn a w).2.1) := by
  rintro a w ⟨x, p0, rfl, rfl, hp⟩
  rw [fe5_turn x p0]
  exact am_lf_ev (re5_turn x p0 hp)
theorem rl5_turn : ∀ (a : List am_V) (w : List am_C), pr5_turn a w → a.length ≤ 2 := by
  rintro a w ⟨x, p0, rfl, rfl, hp⟩
  exact Nat.le_of_ble_eq_true rfl
theorem pa5_turn : ∀ a w, pr5_turn a w → ∃ q a' ci fs r, a = .inr (.inl q) :: a' ∧ w[q]? = some (.inr (ci, fs)) ∧ hn_cl[ci]? = some r ∧ r.1 = hn_R5 := by
  rintro a w ⟨x, p0, rfl, rfl, hp⟩
  exact ⟨0, _, 5, _, _, rfl, rfl, rfl, rfl⟩
set_option maxRecDepth 100000 in
set_option maxHeartbeats 4000000 in
theorem km5_turn {l : Launch} {E : (Nat → Prop) → State → Prop} {D : va_G} {ou : Nat → Nat} {ca : Nat → ClassId} (hE : hg_E E ou) : hg_Met l E D ou ca hy5_turn prog_7_method_11_code 2 (some .int) 1 pr5_turn fm5_turn := by
  refine am_met (B := kb5_turn) (cuts := []) (nt := 5) (by decide +kernel) rfl rfl (hg_tys_ok ca) ?_ (by decide) rl5_turn ?_ rn5_turn
  · exact fun t ht => List.mem_cons_of_mem _ (hg_arr t ht)
  · intro a w hp ad p e R s m args below meth c hR X hEs hnm
    have hR1 : 1 ≤ R.frames ∧ 40 ≤ R.locals := by rw [hR]; exact ⟨Nat.le_refl _, Nat.le_refl _⟩
    have hN := hE.2.1 _ _ hEs
    refine ⟨kd5_turn_ok, fun index ci fi mode hq => kf5_ok X.2.2.2.2.1 hN.1 (index, ci, fi, mode) (am_as_mem hq), fun index ci fs hq => (am_no hq).elim, fun x v hq => (am_no hq).elim, ?_, fun o t n f hq => (am_no hq).elim, rfl, rfl, by rw [hR]; exact Nat.le_refl _, by rw [hR]; exact Nat.le_refl _⟩
    intro pc sel n0 pre0 f0 hq
    have hz : ∀ q ∈ ki5_turn, am_CK p l e R s m args below meth c D hn_cl (va_A (am_w ad ou ca w) s.heap.size) ou ca 2 q.1 q.2.2.1 q.2.2.2.1 q.2.2.2.2 := by
      refine am_allc (am_ck_V (n := 1) X hEs hE.1 (km5_has hE) (hg_good (gw_mem 342 (by decide +kernel))) rfl (List.mem_cons_of_mem _ (gw_mem 73 (by decide +kernel))) (List.mem_cons_of_mem _ (gw_mem 339 (by decide +kernel))) (List.mem_cons_of_mem _ (gw_mem 341 (by decide +kernel))) (List.mem_cons_of_mem _ (gw_mem 2 (by decide +kernel))) pa5_has (by decide +kernel) ⟨Nat.le_trans (by decide) hR1.1, Nat.le_trans (by decide) hR1.2⟩ (kd5_turn_ok (2, .invokevirtual 70, 3) (List.mem_of_getElem? (i := 2) rfl))) (am_all0)
    exact hz _ (am_as_mem hq)
noncomputable def ki5_close : List (Nat × Option (List Nat) × Nat × (List am_V → List am_C → Prop) × am_M) := [(2, none, 2, pr5_has, fm5_has)]
noncomputable def kb5_close : am_B := (kd5_close, am_as kf5, hn_ty, fun _ => none, fun _ => none, am_as ki5_close, fun _ => none, 5, 2, (some .int))
noncomputable def fn5_close (x : qt5) (p0 : Int32) : Int32 := Classical.choose (⟨_, rfl⟩ : ∃ z : Int32, z = (if (fn5_has x p0) = 0 then p0 else ((qg5_closes x) (p0).toNatClampNeg)))
theorem fq5_close (x : qt5) (p0 : Int32) : fn5_close x p0 = (if (fn5_has x p0) = 0 then p0 else ((qg5_closes x) (p0).toNatClampNeg)) := Classical.choose_spec (⟨_, rfl⟩ : ∃ z : Int32, z = (if (fn5_has x p0) = 0 then p0 else ((qg5_closes x) (p0).toNatClampNeg)))
def wp5_close (x : qt5) (p0 : Int32) : Prop := ((wp5_has x p0) ∧ (((fn5_has x p0) = 0 → True) ∧ (¬ (fn5_has x p0) = 0 → (am_inb p0 240 = true))))
set_option maxRecDepth 100000 in
set_option maxHeartbeats 4000000 in
theorem re5_close (x : qt5) (p0 : Int32) (hp : wp5_close x p0) : am_lf (am_mk kb5_close 0 0 8) [] (0, am_L0 [.inr (.inl 0), .inl p0] 2, [], (kw_S x), 0, 0) = some (some (.inl (fn5_close x p0)), (kw_S x)) := by
  unfold wp5_close at hp
  refine am_lf_eq ?_
  generalize am_lf (am_mk kb5_close 0 0 8) [] = kt
  refine am_cx (pre := pr5_has) (f := fm5_has) (r := (some (.inl (fn5_has x p0)), (kw_S x), 0, 0)) ?_ ?_ ?_ ?_
  · exact ⟨x, p0, rfl, rfl, hp.1⟩
  · exact fe5_has x p0
  · exact rfl
  refine am_if (c := (fn5_has x p0) = 0) (fun h1 => ?_) (fun h1 => ?_)
  · have e : fn5_close x p0 = p0 := by
      rw [fq5_close]
      rw [if_pos h1]
    rw [e] <;> rfl
  · have q1 := hp.2.2 h1
    refine am_ci (c := am_inb p0 240 = true) q1 ?_
    have e : fn5_close x p0 = ((qg5_closes x) (p0).toNatClampNeg) := by
      rw [fq5_close]
      rw [if_neg h1]
    rw [e] <;> rfl
abbrev pr5_close : List am_V → List am_C → Prop := fun a w => ∃ (x : qt5) (p0 : Int32), a = [.inr (.inl 0), .inl p0] ∧ w = (kw_S x) ∧ wp5_close x p0
noncomputable def fm5_close : am_M := fun a w => (fun (z : Int32) => (some (.inl z), (kw_S (qs5 w 0)), 0, 0)) (fn5_close (qs5 w 0) (am_i (am_an a 1)))
theorem fe5_close (x : qt5) (p0 : Int32) : fm5_close [.inr (.inl 0), .inl p0] (kw_S x) = (some (.inl (fn5_close x p0)), (kw_S x), 0, 0) := rfl
set_option maxRecDepth 100000 in
set_option maxHeartbeats 4000000 in
theorem rn5_close : ∀ (a : List am_V) (w : List am_C), pr5_close a w → ∃ nq, am_ev (am_mk kb5_close (fm5_close a w).2.2.1 (fm5_close a w).2.2.2 w.length) [] nq (0, am_L0 a 2, [], w, 0, 0) = some ((fm5_close a w).1, (fm5_close a w).2.1) := by
  rintro a w ⟨x, p0, rfl, rfl, hp⟩
  rw [fe5_close x p0]
  exact am_lf_ev (re5_close x p0 hp)
theorem rl5_close : ∀ (a : List am_V) (w : List am_C), pr5_close a w → a.length ≤ 2 := by
  rintro a w ⟨x, p0, rfl, rfl, hp⟩
  exact Nat.le_of_ble_eq_true rfl
theorem pa5_close : ∀ a w, pr5_close a w → ∃ q a' ci fs r, a = .inr (.inl q) :: a' ∧ w[q]? = some (.inr (ci, fs)) ∧ hn_cl[ci]? = some r ∧ r.1 = hn_R5 := by
  rintro a w ⟨x, p0, rfl, rfl, hp⟩
  exact ⟨0, _, 5, _, _, rfl, rfl, rfl, rfl⟩
set_option maxRecDepth 100000 in
set_option maxHeartbeats 4000000 in
theorem km5_close {l : Launch} {E : (Nat → Prop) → State → Prop} {D : va_G} {ou : Nat → Nat} {ca : Nat → ClassId} (hE : hg_E E ou) : hg_Met l E D ou ca hy5_close prog_7_method_12_code 2 (some .int) 1 pr5_close fm5_close := by
  refine am_met (B := kb5_close) (cuts := []) (nt := 5) (by decide +kernel) rfl rfl (hg_tys_ok ca) ?_ (by decide) rl5_close ?_ rn5_close
  · exact fun t ht => List.mem_cons_of_mem _ (hg_arr t ht)
  · intro a w hp ad p e R s m args below meth c hR X hEs hnm
    have hR1 : 1 ≤ R.frames ∧ 40 ≤ R.locals := by rw [hR]; exact ⟨Nat.le_refl _, Nat.le_refl _⟩
    have hN := hE.2.1 _ _ hEs
    refine ⟨kd5_close_ok, fun index ci fi mode hq => kf5_ok X.2.2.2.2.1 hN.1 (index, ci, fi, mode) (am_as_mem hq), fun index ci fs hq => (am_no hq).elim, fun x v hq => (am_no hq).elim, ?_, fun o t n f hq => (am_no hq).elim, rfl, rfl, by rw [hR]; exact Nat.le_refl _, by rw [hR]; exact Nat.le_refl _⟩
    intro pc sel n0 pre0 f0 hq
    have hz : ∀ q ∈ ki5_close, am_CK p l e R s m args below meth c D hn_cl (va_A (am_w ad ou ca w) s.heap.size) ou ca 2 q.1 q.2.2.1 q.2.2.2.1 q.2.2.2.2 := by
      refine am_allc (am_ck_V (n := 1) X hEs hE.1 (km5_has hE) (hg_good (gw_mem 342 (by decide +kernel))) rfl (List.mem_cons_of_mem _ (gw_mem 73 (by decide +kernel))) (List.mem_cons_of_mem _ (gw_mem 339 (by decide +kernel))) (List.mem_cons_of_mem _ (gw_mem 341 (by decide +kernel))) (List.mem_cons_of_mem _ (gw_mem 2 (by decide +kernel))) pa5_has (by decide +kernel) ⟨Nat.le_trans (by decide) hR1.1, Nat.le_trans (by decide) hR1.2⟩ (kd5_close_ok (2, .invokevirtual 70, 3) (List.mem_of_getElem? (i := 2) rfl))) (am_all0)
    exact hz _ (am_as_mem hq)
noncomputable def ki5_noteCode : List (Nat × Option (List Nat) × Nat × (List am_V → List am_C → Prop) × am_M) := [(2, none, 2, pr5_has, fm5_has)]
noncomputable def kb5_noteCode : am_B := (kd5_noteCode, am_as kf5, hn_ty, fun _ => none, fun _ => none, am_as ki5_noteCode, fun _ => none, 5, 3, none)
noncomputable def fn5_noteCode (x : qt5) (p0 : Int32) (p1 : Int32) : qt5 := Classical.choose (⟨_, rfl⟩ : ∃ z : qt5, z = (if (fn5_has x p0) = 0 then x else (qa5_codes x ((p0).toNatClampNeg) p1)))
theorem fq5_noteCode (x : qt5) (p0 : Int32) (p1 : Int32) : fn5_noteCode x p0 p1 = (if (fn5_has x p0) = 0 then x else (qa5_codes x ((p0).toNatClampNeg) p1)) := Classical.choose_spec (⟨_, rfl⟩ : ∃ z : qt5, z = (if (fn5_has x p0) = 0 then x else (qa5_codes x ((p0).toNatClampNeg) p1)))
def wp5_noteCode (x : qt5) (p0 : Int32) (p1 : Int32) : Prop := ((wp5_has x p0) ∧ (((fn5_has x p0) = 0 → True) ∧ (¬ (fn5_has x p0) = 0 → (am_inb p0 240 = true))))
set_option maxRecDepth 100000 in
set_option maxHeartbeats 4000000 in
theorem re5_noteCode (x : qt5) (p0 : Int32) (p1 : Int32) (hp : wp5_noteCode x p0 p1) : am_lf (am_mk kb5_noteCode 0 0 8) [] (0, am_L0 [.inr (.inl 0), .inl p0, .inl p1] 3, [], (kw_S x), 0, 0) = some (none, (kw_S (fn5_noteCode x p0 p1))) := by
  unfold wp5_noteCode at hp
  refine am_lf_eq ?_
  generalize am_lf (am_mk kb5_noteCode 0 0 8) [] = kt
  refine am_cx (pre := pr5_has) (f := fm5_has) (r := (some (.inl (fn5_has x p0)), (kw_S x), 0, 0)) ?_ ?_ ?_ ?_
  · exact ⟨x, p0, rfl, rfl, hp.1⟩
  · exact fe5_has x p0
  · exact rfl
  refine am_if (c := (fn5_has x p0) = 0) (fun h1 => ?_) (fun h1 => ?_)
  · have e : fn5_noteCode x p0 p1 = x := by
      rw [fq5_noteCode]
      rw [if_pos h1]
    rw [e] <;> rfl
  · have q1 := hp.2.2 h1
    refine am_ci (c := am_inb p0 240 = true) q1 ?_
    refine am_sp (w' := (kw_S (qa5_codes x ((p0).toNatClampNeg) p1))) (kp_S_0_codes x ((p0).toNatClampNeg) p1) ?_
    have e : fn5_noteCode x p0 p1 = (qa5_codes x ((p0).toNatClampNeg) p1) := by
      rw [fq5_noteCode]
      rw [if_neg h1]
    rw [e] <;> rfl
abbrev pr5_noteCode : List am_V → List am_C → Prop := fun a w => ∃ (x : qt5) (p0 : Int32) (p1 : Int32), a = [.inr (.inl 0), .inl p0, .inl p1] ∧ w = (kw_S x) ∧ wp5_noteCode x p0 p1
noncomputable def fm5_noteCode : am_M := fun a w => (fun (z : qt5) => (none, (kw_S z), 0, 0)) (fn5_noteCode (qs5 w 0) (am_i (am_an a 1)) (am_i (am_an a 2)))
theorem fe5_noteCode (x : qt5) (p0 : Int32) (p1 : Int32) : fm5_noteCode [.inr (.inl 0), .inl p0, .inl p1] (kw_S x) = (none, (kw_S (fn5_noteCode x p0 p1)), 0, 0) := rfl
set_option maxRecDepth 100000 in
set_option maxHeartbeats 4000000 in
theorem rn5_noteCode : ∀ (a : List am_V) (w : List am_C), pr5_noteCode a w → ∃ nq, am_ev (am_mk kb5_noteCode (fm5_noteCode a w).2.2.1 (fm5_noteCode a w).2.2.2 w.length) [] nq (0, am_L0 a 3, [], w, 0, 0) = some ((fm5_noteCode a w).1, (fm5_noteCode a w).2.1) := by
  rintro a w ⟨x, p0, p1, rfl, rfl, hp⟩
  rw [fe5_noteCode x p0 p1]
  exact am_lf_ev (re5_noteCode x p0 p1 hp)
theorem rl5_noteCode : ∀ (a : List am_V) (w : List am_C), pr5_noteCode a w → a.length ≤ 3 := by
  rintro a w ⟨x, p0, p1, rfl, rfl, hp⟩
  exact Nat.le_of_ble_eq_true rfl
theorem pa5_noteCode : ∀ a w, pr5_noteCode a w → ∃ q a' ci fs r, a = .inr (.inl q) :: a' ∧ w[q]? = some (.inr (ci, fs)) ∧ hn_cl[ci]? = some r ∧ r.1 = hn_R5 := by
  rintro a w ⟨x, p0, p1, rfl, rfl, hp⟩
  exact ⟨0, _, 5, _, _, rfl, rfl, rfl, rfl⟩
set_option maxRecDepth 100000 in
set_option maxHeartbeats 4000000 in
theorem km5_noteCode {l : Launch} {E : (Nat → Prop) → State → Prop} {D : va_G} {ou : Nat → Nat} {ca : Nat → ClassId} (hE : hg_E E ou) : hg_Met l E D ou ca hy5_noteCode prog_7_method_13_code 3 none 1 pr5_noteCode fm5_noteCode := by
  refine am_met (B := kb5_noteCode) (cuts := []) (nt := 5) (by decide +kernel) rfl rfl (hg_tys_ok ca) ?_ (by decide) rl5_noteCode ?_ rn5_noteCode
  · exact fun t ht => List.mem_cons_of_mem _ (hg_arr t ht)
  · intro a w hp ad p e R s m args below meth c hR X hEs hnm
    have hR1 : 1 ≤ R.frames ∧ 40 ≤ R.locals := by rw [hR]; exact ⟨Nat.le_refl _, Nat.le_refl _⟩
    have hN := hE.2.1 _ _ hEs
    refine ⟨kd5_noteCode_ok, fun index ci fi mode hq => kf5_ok X.2.2.2.2.1 hN.1 (index, ci, fi, mode) (am_as_mem hq), fun index ci fs hq => (am_no hq).elim, fun x v hq => (am_no hq).elim, ?_, fun o t n f hq => (am_no hq).elim, rfl, rfl, by rw [hR]; exact Nat.le_refl _, by rw [hR]; exact Nat.le_refl _⟩
    intro pc sel n0 pre0 f0 hq
    have hz : ∀ q ∈ ki5_noteCode, am_CK p l e R s m args below meth c D hn_cl (va_A (am_w ad ou ca w) s.heap.size) ou ca 3 q.1 q.2.2.1 q.2.2.2.1 q.2.2.2.2 := by
      refine am_allc (am_ck_V (n := 1) X hEs hE.1 (km5_has hE) (hg_good (gw_mem 342 (by decide +kernel))) rfl (List.mem_cons_of_mem _ (gw_mem 73 (by decide +kernel))) (List.mem_cons_of_mem _ (gw_mem 339 (by decide +kernel))) (List.mem_cons_of_mem _ (gw_mem 341 (by decide +kernel))) (List.mem_cons_of_mem _ (gw_mem 2 (by decide +kernel))) pa5_has (by decide +kernel) ⟨Nat.le_trans (by decide) hR1.1, Nat.le_trans (by decide) hR1.2⟩ (kd5_noteCode_ok (2, .invokevirtual 70, 3) (List.mem_of_getElem? (i := 2) rfl))) (am_all0)
    exact hz _ (am_as_mem hq)
noncomputable def ki5_noteTurn : List (Nat × Option (List Nat) × Nat × (List am_V → List am_C → Prop) × am_M) := [(2, none, 2, pr5_has, fm5_has)]
noncomputable def kb5_noteTurn : am_B := (kd5_noteTurn, am_as kf5, hn_ty, fun _ => none, fun _ => none, am_as ki5_noteTurn, fun _ => none, 5, 3, none)
noncomputable def fn5_noteTurn (x : qt5) (p0 : Int32) (p1 : Int32) : qt5 := Classical.choose (⟨_, rfl⟩ : ∃ z : qt5, z = (if (fn5_has x p0) = 0 then x else (qa5_turns x ((p0).toNatClampNeg) p1)))
theorem fq5_noteTurn (x : qt5) (p0 : Int32) (p1 : Int32) : fn5_noteTurn x p0 p1 = (if (fn5_has x p0) = 0 then x else (qa5_turns x ((p0).toNatClampNeg) p1)) := Classical.choose_spec (⟨_, rfl⟩ : ∃ z : qt5, z = (if (fn5_has x p0) = 0 then x else (qa5_turns x ((p0).toNatClampNeg) p1)))
def wp5_noteTurn (x : qt5) (p0 : Int32) (p1 : Int32) : Prop := ((wp5_has x p0) ∧ (((fn5_has x p0) = 0 → True) ∧ (¬ (fn5_has x p0) = 0 → (am_inb p0 240 = true))))
set_option maxRecDepth 100000 in
set_option maxHeartbeats 4000000 in
theorem re5_noteTurn (x : qt5) (p0 : Int32) (p1 : Int32) (hp : wp5_noteTurn x p0 p1) : am_lf (am_mk kb5_noteTurn 0 0 8) [] (0, am_L0 [.inr (.inl 0), .inl p0, .inl p1] 3, [], (kw_S x), 0, 0) = some (none, (kw_S (fn5_noteTurn x p0 p1))) := by
  unfold wp5_noteTurn at hp
  refine am_lf_eq ?_
  generalize am_lf (am_mk kb5_noteTurn 0 0 8) [] = kt
  refine am_cx (pre := pr5_has) (f := fm5_has) (r := (some (.inl (fn5_has x p0)), (kw_S x), 0, 0)) ?_ ?_ ?_ ?_
  · exact ⟨x, p0, rfl, rfl, hp.1⟩
  · exact fe5_has x p0
  · exact rfl
  refine am_if (c := (fn5_has x p0) = 0) (fun h1 => ?_) (fun h1 => ?_)
  · have e : fn5_noteTurn x p0 p1 = x := by
      rw [fq5_noteTurn]
      rw [if_pos h1]
    rw [e] <;> rfl
  · have q1 := hp.2.2 h1
    refine am_ci (c := am_inb p0 240 = true) q1 ?_
    refine am_sp (w' := (kw_S (qa5_turns x ((p0).toNatClampNeg) p1))) (kp_S_0_turns x ((p0).toNatClampNeg) p1) ?_
    have e : fn5_noteTurn x p0 p1 = (qa5_turns x ((p0).toNatClampNeg) p1) := by
      rw [fq5_noteTurn]
      rw [if_neg h1]
    rw [e] <;> rfl
abbrev pr5_noteTurn : List am_V → List am_C → Prop := fun a w => ∃ (x : qt5) (p0 : Int32) (p1 : Int32), a = [.inr (.inl 0), .inl p0, .inl p1] ∧ w = (kw_S x) ∧ wp5_noteTurn x p0 p1
noncomputable def fm5_noteTurn : am_M := fun a w => (fun (z : qt5) => (none, (kw_S z), 0, 0)) (fn5_noteTurn (qs5 w 0) (am_i (am_an a 1)) (am_i (am_an a 2)))
theorem fe5_noteTurn (x : qt5) (p0 : Int32) (p1 : Int32) : fm5_noteTurn [.inr (.inl 0), .inl p0, .inl p1] (kw_S x) = (none, (kw_S (fn5_noteTurn x p0 p1)), 0, 0) := rfl
set_option maxRecDepth 100000 in
set_option maxHeartbeats 4000000 in
theorem rn5_noteTurn : ∀ (a : List am_V) (w : List am_C), pr5_noteTurn a w → ∃ nq, am_ev (am_mk kb5_noteTurn (fm5_noteTurn a w).2.2.1 (fm5_noteTurn a w).2.2.2 w.length) [] nq (0, am_L0 a 3, [], w, 0, 0) = some ((fm5_noteTurn a w).1, (fm5_noteTurn a w).2.1) := by
  rintro a w ⟨x, p0, p1, rfl, rfl, hp⟩
  rw [fe5_noteTurn x p0 p1]
  exact am_lf_ev (re5_noteTurn x p0 p1 hp)
theorem rl5_noteTurn : ∀ (a : List am_V) (w : List am_C), pr5_noteTurn a w → a.length ≤ 3 := by
  rintro a w ⟨x, p0, p1, rfl, rfl, hp⟩
  exact Nat.le_of_ble_eq_true rfl
theorem pa5_noteTurn : ∀ a w, pr5_noteTurn a w → ∃ q a' ci fs r, a = .inr (.inl q) :: a' ∧ w[q]? = some (.inr (ci, fs)) ∧ hn_cl[ci]? = some r ∧ r.1 = hn_R5 := by
  rintro a w ⟨x, p0, p1, rfl, rfl, hp⟩
  exact ⟨0, _, 5, _, _, rfl, rfl, rfl, rfl⟩
set_option maxRecDepth 100000 in
set_option maxHeartbeats 4000000 in
theorem km5_noteTurn {l : Launch} {E : (Nat → Prop) → State → Prop} {D : va_G} {ou : Nat → Nat} {ca : Nat → ClassId} (hE : hg_E E ou) : hg_Met l E D ou ca hy5_noteTurn prog_7_method_14_code 3 none 1 pr5_noteTurn fm5_noteTurn := by
  refine am_met (B := kb5_noteTurn) (cuts := []) (nt := 5) (by decide +kernel) rfl rfl (hg_tys_ok ca) ?_ (by decide) rl5_noteTurn ?_ rn5_noteTurn
  · exact fun t ht => List.mem_cons_of_mem _ (hg_arr t ht)
  · intro a w hp ad p e R s m args below meth c hR X hEs hnm
    have hR1 : 1 ≤ R.frames ∧ 40 ≤ R.locals := by rw [hR]; exact ⟨Nat.le_refl _, Nat.le_refl _⟩
    have hN := hE.2.1 _ _ hEs
    refine ⟨kd5_noteTurn_ok, fun index ci fi mode hq => kf5_ok X.2.2.2.2.1 hN.1 (index, ci, fi, mode) (am_as_mem hq), fun index ci fs hq => (am_no hq).elim, fun x v hq => (am_no hq).elim, ?_, fun o t n f hq => (am_no hq).elim, rfl, rfl, by rw [hR]; exact Nat.le_refl _, by rw [hR]; exact Nat.le_refl _⟩
    intro pc sel n0 pre0 f0 hq
    have hz : ∀ q ∈ ki5_noteTurn, am_CK p l e R s m args below meth c D hn_cl (va_A (am_w ad ou ca w) s.heap.size) ou ca 3 q.1 q.2.2.1 q.2.2.2.1 q.2.2.2.2 := by
      refine am_allc (am_ck_V (n := 1) X hEs hE.1 (km5_has hE) (hg_good (gw_mem 342 (by decide +kernel))) rfl (List.mem_cons_of_mem _ (gw_mem 73 (by decide +kernel))) (List.mem_cons_of_mem _ (gw_mem 339 (by decide +kernel))) (List.mem_cons_of_mem _ (gw_mem 341 (by decide +kernel))) (List.mem_cons_of_mem _ (gw_mem 2 (by decide +kernel))) pa5_has (by decide +kernel) ⟨Nat.le_trans (by decide) hR1.1, Nat.le_trans (by decide) hR1.2⟩ (kd5_noteTurn_ok (2, .invokevirtual 70, 3) (List.mem_of_getElem? (i := 2) rfl))) (am_all0)
    exact hz _ (am_as_mem hq)
noncomputable def ki5_noteClose : List (Nat × Option (List Nat) × Nat × (List am_V → List am_C → Prop) × am_M) := [(2, none, 2, pr5_has, fm5_has)]
noncomputable def kb5_noteClose : am_B := (kd5_noteClose, am_as kf5, hn_ty, fun _ => none, fun _ => none, am_as ki5_noteClose, fun _ => none, 5, 3, none)
noncomputable def fn5_noteClose (x : qt5) (p0 : Int32) (p1 : Int32) : qt5 := Classical.choose (⟨_, rfl⟩ : ∃ z : qt5, z = (if (fn5_has x p0) = 0 then x else (qa5_closes x ((p0).toNatClampNeg) p1)))
theorem fq5_noteClose (x : qt5) (p0 : Int32) (p1 : Int32) : fn5_noteClose x p0 p1 = (if (fn5_has x p0) = 0 then x else (qa5_closes x ((p0).toNatClampNeg) p1)) := Classical.choose_spec (⟨_, rfl⟩ : ∃ z : qt5, z = (if (fn5_has x p0) = 0 then x else (qa5_closes x ((p0).toNatClampNeg) p1)))
def wp5_noteClose (x : qt5) (p0 : Int32) (p1 : Int32) : Prop := ((wp5_has x p0) ∧ (((fn5_has x p0) = 0 → True) ∧ (¬ (fn5_has x p0) = 0 → (am_inb p0 240 = true))))
set_option maxRecDepth 100000 in
set_option maxHeartbeats 4000000 in
theorem re5_noteClose (x : qt5) (p0 : Int32) (p1 : Int32) (hp : wp5_noteClose x p0 p1) : am_lf (am_mk kb5_noteClose 0 0 8) [] (0, am_L0 [.inr (.inl 0), .inl p0, .inl p1] 3, [], (kw_S x), 0, 0) = some (none, (kw_S (fn5_noteClose x p0 p1))) := by
  unfold wp5_noteClose at hp
  refine am_lf_eq ?_
  generalize am_lf (am_mk kb5_noteClose 0 0 8) [] = kt
  refine am_cx (pre := pr5_has) (f := fm5_has) (r := (some (.inl (fn5_has x p0)), (kw_S x), 0, 0)) ?_ ?_ ?_ ?_
  · exact ⟨x, p0, rfl, rfl, hp.1⟩
  · exact fe5_has x p0
  · exact rfl
  refine am_if (c := (fn5_has x p0) = 0) (fun h1 => ?_) (fun h1 => ?_)
  · have e : fn5_noteClose x p0 p1 = x := by
      rw [fq5_noteClose]
      rw [if_pos h1]
    rw [e] <;> rfl
  · have q1 := hp.2.2 h1
    refine am_ci (c := am_inb p0 240 = true) q1 ?_
    refine am_sp (w' := (kw_S (qa5_closes x ((p0).toNatClampNeg) p1))) (kp_S_0_closes x ((p0).toNatClampNeg) p1) ?_
    have e : fn5_noteClose x p0 p1 = (qa5_closes x ((p0).toNatClampNeg) p1) := by
      rw [fq5_noteClose]
      rw [if_neg h1]
    rw [e] <;> rfl
abbrev pr5_noteClose : List am_V → List am_C → Prop := fun a w => ∃ (x : qt5) (p0 : Int32) (p1 : Int32), a = [.inr (.inl 0), .inl p0, .inl p1] ∧ w = (kw_S x) ∧ wp5_noteClose x p0 p1
noncomputable def fm5_noteClose : am_M := fun a w => (fun (z : qt5) => (none, (kw_S z), 0, 0)) (fn5_noteClose (qs5 w 0) (am_i (am_an a 1)) (am_i (am_an a 2)))
theorem fe5_noteClose (x : qt5) (p0 : Int32) (p1 : Int32) : fm5_noteClose [.inr (.inl 0), .inl p0, .inl p1] (kw_S x) = (none, (kw_S (fn5_noteClose x p0 p1)), 0, 0) := rfl
set_option maxRecDepth 100000 in
set_option maxHeartbeats 4000000 in
theorem rn5_noteClose : ∀ (a : List am_V) (w : List am_C), pr5_noteClose a w → ∃ nq, am_ev (am_mk kb5_noteClose (fm5_noteClose a w).2.2.1 (fm5_noteClose a w).2.2.2 w.length) [] nq (0, am_L0 a 3, [], w, 0, 0) = some ((fm5_noteClose a w).1, (fm5_noteClose a w).2.1) := by
  rintro a w ⟨x, p0, p1, rfl, rfl, hp⟩
  rw [fe5_noteClose x p0 p1]
  exact am_lf_ev (re5_noteClose x p0 p1 hp)
theorem rl5_noteClose : ∀ (a : List am_V) (w : List am_C), pr5_noteClose a w → a.length ≤ 3 := by
  rintro a w ⟨x, p0, p1, rfl, rfl, hp⟩
  exact Nat.le_of_ble_eq_true rfl
theorem pa5_noteClose : ∀ a w, pr5_noteClose a w → ∃ q a' ci fs r, a = .inr (.inl q) :: a' ∧ w[q]? = some (.inr (ci, fs)) ∧ hn_cl[ci]? = some r ∧ r.1 = hn_R5 := by
  rintro a w ⟨x, p0, p1, rfl, rfl, hp⟩
  exact ⟨0, _, 5, _, _, rfl, rfl, rfl, rfl⟩
set_option maxRecDepth 100000 in
set_option maxHeartbeats 4000000 in
theorem km5_noteClose {l : Launch} {E : (Nat → Prop) → State → Prop} {D : va_G} {ou : Nat → Nat} {ca : Nat → ClassId} (hE : hg_E E ou) : hg_Met l E D ou ca hy5_noteClose prog_7_method_15_code 3 none 1 pr5_noteClose fm5_noteClose := by
  refine am_met (B := kb5_noteClose) (cuts := []) (nt := 5) (by decide +kernel) rfl rfl (hg_tys_ok ca) ?_ (by decide) rl5_noteClose ?_ rn5_noteClose
  · exact fun t ht => List.mem_cons_of_mem _ (hg_arr t ht)
  · intro a w hp ad p e R s m args below meth c hR X hEs hnm
    have hR1 : 1 ≤ R.frames ∧ 40 ≤ R.locals := by rw [hR]; exact ⟨Nat.le_refl _, Nat.le_refl _⟩
    have hN := hE.2.1 _ _ hEs
    refine ⟨kd5_noteClose_ok, fun index ci fi mode hq => kf5_ok X.2.2.2.2.1 hN.1 (index, ci, fi, mode) (am_as_mem hq), fun index ci fs hq => (am_no hq).elim, fun x v hq => (am_no hq).elim, ?_, fun o t n f hq => (am_no hq).elim, rfl, rfl, by rw [hR]; exact Nat.le_refl _, by rw [hR]; exact Nat.le_refl _⟩
    intro pc sel n0 pre0 f0 hq
    have hz : ∀ q ∈ ki5_noteClose, am_CK p l e R s m args below meth c D hn_cl (va_A (am_w ad ou ca w) s.heap.size) ou ca 3 q.1 q.2.2.1 q.2.2.2.1 q.2.2.2.2 := by
      refine am_allc (am_ck_V (n := 1) X hEs hE.1 (km5_has hE) (hg_good (gw_mem 342 (by decide +kernel))) rfl (List.mem_cons_of_mem _ (gw_mem 73 (by decide +kernel))) (List.mem_cons_of_mem _ (gw_mem 339 (by decide +kernel))) (List.mem_cons_of_mem _ (gw_mem 341 (by decide +kernel))) (List.mem_cons_of_mem _ (gw_mem 2 (by decide +kernel))) pa5_has (by decide +kernel) ⟨Nat.le_trans (by decide) hR1.1, Nat.le_trans (by decide) hR1.2⟩ (kd5_noteClose_ok (2, .invokevirtual 70, 3) (List.mem_of_getElem? (i := 2) rfl))) (am_all0)
    exact hz _ (am_as_mem hq)
noncomputable def ki5_spells : List (Nat × Option (List Nat) × Nat × (List am_V → List am_C → Prop) × am_M) := [(4, some [], 1, prJ_length, fmJ_length), (23, some [], 1, prJ_length, fmJ_length), (39, none, 2, pr5_sign, fm5_sign), (45, some [], 2, prJ_charAt, fmJ_charAt)]
noncomputable def kb5_spells : am_B := (kd5_spells, am_as kf5, hn_ty, fun _ => none, fun _ => none, am_as ki5_spells, fun _ => none, 5, 6, (some .boolean))
noncomputable def fn5_spells_c20 : Nat → qt5 → Int32 → Nat → Int32 → Int32 → Int32
  | 0, _, _, _, _, _ => 0
  | fu + 1, x, v1, v3, v4, v5 => (if (fnJ_length v3) ≤ v5 then v4 else (if v4 = 0 then v4 else (if (fn5_sign x (v1 + v5)) = (fnJ_charAt v3 v5) then (fn5_spells_c20 fu x v1 v3 (1 : Int32) (v5 + (1 : Int32))) else (fn5_spells_c20 fu x v1 v3 (0 : Int32) (v5 + (1 : Int32))))))
def wp5_spells_c20 : Nat → qt5 → Int32 → Nat → Int32 → Int32 → Prop
  | 0, _, _, _, _, _ => False
  | fu + 1, x, v1, v3, v4, v5 => ((wpJ_length v3) ∧ (((fnJ_length v3) ≤ v5 → (am_fit .boolean (.inl v4) = true)) ∧ (¬ (fnJ_length v3) ≤ v5 → ((v4 = 0 → (am_fit .boolean (.inl v4) = true)) ∧ (¬ v4 = 0 → ((wp5_sign x (v1 + v5)) ∧ ((wpJ_charAt v3 v5) ∧ (((fn5_sign x (v1 + v5)) = (fnJ_charAt v3 v5) → (wp5_spells_c20 fu x v1 v3 (1 : Int32) (v5 + (1 : Int32)))) ∧ (¬ (fn5_sign x (v1 + v5)) = (fnJ_charAt v3 v5) → (wp5_spells_c20 fu x v1 v3 (0 : Int32) (v5 + (1 : Int32))))))))))))
set_option maxRecDepth 100000 in
set_option maxHeartbeats 4000000 in
theorem rc5_spells_20 : ∀ (fu : Nat) (x : qt5) (v1 : Int32) (v3 : Nat) (v4 : Int32) (v5 : Int32) (j2 : Option am_V) (g2 : am_loO 8 j2 = true) , wp5_spells_c20 fu x v1 v3 v4 v5 → am_lf (am_mk kb5_spells 0 0 8) [20] (20, [some (.inr (.inl 0)), some (.inl v1), j2, some (.inr (.inr (v3 + 1))), some (.inl v4), some (.inl v5)], [], (kw_S x), 0, 0) = some (some (.inl (fn5_spells_c20 fu x v1 v3 v4 v5)), (kw_S x)) := by
  intro fu
  induction fu with
  | zero =>
    intro x v1 v3 v4 v5 j2 g2 hp
    exact hp.elim
  | succ fu ih =>
    intro x v1 v3 v4 v5 j2 g2 hp
    unfold wp5_spells_c20 at hp
    refine am_lf_eq ?_
    generalize am_lf (am_mk kb5_spells 0 0 8) [20] = kt at ih ⊢
    refine am_cy (pre := prJ_length) (f := fmJ_length) (a' := [.inr (.inr (v3 + 1))]) (wc := []) (w' := (kw_S x)) (r := (some (.inl (fnJ_length v3)), [], 0, 0)) ?_ ?_ ?_ ?_ ?_ ?_ ?_ ?_ ?_ ?_
    · exact am_sow0 _
    · rfl
    · rfl
    · exact am_sub0 _
    · exact ⟨v3, rfl, rfl, hp.1⟩
    · exact feJ_length v3
    · exact rfl
    · rfl
    · exact am_mix0 _
    refine am_if (c := (fnJ_length v3) ≤ v5) (fun h2 => ?_) (fun h2 => ?_)
    · have q2 := hp.2.1 h2
      refine am_ci (c := am_fit .boolean (.inl v4) = true) q2 ?_
      have e : fn5_spells_c20 (fu + 1) x v1 v3 v4 v5 = v4 := by
        rw [fn5_spells_c20]
        rw [if_pos h2]
      rw [e] <;> rfl
    · have q2 := hp.2.2 h2
      refine am_if (c := v4 = 0) (fun h3 => ?_) (fun h3 => ?_)
      · have q3 := q2.1 h3
        refine am_ci (c := am_fit .boolean (.inl v4) = true) q3 ?_
        have e : fn5_spells_c20 (fu + 1) x v1 v3 v4 v5 = v4 := by
          rw [fn5_spells_c20]
          rw [if_neg h2, if_pos h3]
        rw [e] <;> rfl
      · have q3 := q2.2 h3
        refine am_cx (pre := pr5_sign) (f := fm5_sign) (r := (some (.inl (fn5_sign x (v1 + v5))), (kw_S x), 0, 0)) ?_ ?_ ?_ ?_
        · exact ⟨x, (v1 + v5), rfl, rfl, q3.1⟩
        · exact fe5_sign x (v1 + v5)
        · exact (am_ac rfl (am_ac rfl (am_ac g2 (am_ac rfl (am_ac rfl (am_ac rfl am_a0))))))
        refine am_cy (pre := prJ_charAt) (f := fmJ_charAt) (a' := [.inr (.inr (v3 + 1)), .inl v5]) (wc := []) (w' := (kw_S x)) (r := (some (.inl (fnJ_charAt v3 v5)), [], 0, 0)) ?_ ?_ ?_ ?_ ?_ ?_ ?_ ?_ ?_ ?_
        · exact am_sow0 _
        · rfl
        · rfl
        · exact am_sub0 _
        · exact ⟨v3, v5, rfl, rfl, q3.2.1⟩
        · exact feJ_charAt v3 v5
        · exact rfl
        · rfl
        · exact am_mix0 _
        refine am_if (c := (fn5_sign x (v1 + v5)) = (fnJ_charAt v3 v5)) (fun h4 => ?_) (fun h4 => ?_)
        · have q4 := q3.2.2.1 h4
          have e : fn5_spells_c20 (fu + 1) x v1 v3 v4 v5 = fn5_spells_c20 fu x v1 v3 (1 : Int32) (v5 + (1 : Int32)) := by
            rw [fn5_spells_c20]
            rw [if_neg h2, if_neg h3, if_pos h4]
          rw [e]
          exact ih x v1 v3 (1 : Int32) (v5 + (1 : Int32)) _ g2 q4
        · have q4 := q3.2.2.2 h4
          have e : fn5_spells_c20 (fu + 1) x v1 v3 v4 v5 = fn5_spells_c20 fu x v1 v3 (0 : Int32) (v5 + (1 : Int32)) := by
            rw [fn5_spells_c20]
            rw [if_neg h2, if_neg h3, if_neg h4]
          rw [e]
          exact ih x v1 v3 (0 : Int32) (v5 + (1 : Int32)) _ g2 q4
noncomputable def fn5_spells (x : qt5) (p0 : Int32) (p1 : Int32) (p2 : Nat) : Int32 := Classical.choose (⟨_, rfl⟩ : ∃ z : Int32, z = (if (p1 - p0) = (fnJ_length p2) then (fn5_spells_c20 hg_fu x p0 p2 (1 : Int32) (0 : Int32)) else (fn5_spells_c20 hg_fu x p0 p2 (0 : Int32) (0 : Int32))))
theorem fq5_spells (x : qt5) (p0 : Int32) (p1 : Int32) (p2 : Nat) : fn5_spells x p0 p1 p2 = (if (p1 - p0) = (fnJ_length p2) then (fn5_spells_c20 hg_fu x p0 p2 (1 : Int32) (0 : Int32)) else (fn5_spells_c20 hg_fu x p0 p2 (0 : Int32) (0 : Int32))) := Classical.choose_spec (⟨_, rfl⟩ : ∃ z : Int32, z = (if (p1 - p0) = (fnJ_length p2) then (fn5_spells_c20 hg_fu x p0 p2 (1 : Int32) (0 : Int32)) else (fn5_spells_c20 hg_fu x p0 p2 (0 : Int32) (0 : Int32))))
def wp5_spells (x : qt5) (p0 : Int32) (p1 : Int32) (p2 : Nat) : Prop := ((wpJ_length p2) ∧ (((p1 - p0) = (fnJ_length p2) → (wp5_spells_c20 hg_fu x p0 p2 (1 : Int32) (0 : Int32))) ∧ (¬ (p1 - p0) = (fnJ_length p2) → (wp5_spells_c20 hg_fu x p0 p2 (0 : Int32) (0 : Int32)))))
set_option maxRecDepth 100000 in
set_option maxHeartbeats 4000000 in
theorem re5_spells (x : qt5) (p0 : Int32) (p1 : Int32) (p2 : Nat) (hp : wp5_spells x p0 p1 p2) : am_lf (am_mk kb5_spells 0 0 8) [20] (0, am_L0 [.inr (.inl 0), .inl p0, .inl p1, .inr (.inr (p2 + 1))] 6, [], (kw_S x), 0, 0) = some (some (.inl (fn5_spells x p0 p1 p2)), (kw_S x)) := by
  unfold wp5_spells at hp
  have i20 := @rc5_spells_20
  refine am_lf_eq ?_
  generalize am_lf (am_mk kb5_spells 0 0 8) [20] = kt at i20 ⊢
  refine am_cy (pre := prJ_length) (f := fmJ_length) (a' := [.inr (.inr (p2 + 1))]) (wc := []) (w' := (kw_S x)) (r := (some (.inl (fnJ_length p2)), [], 0, 0)) ?_ ?_ ?_ ?_ ?_ ?_ ?_ ?_ ?_ ?_
  · exact am_sow0 _
  · rfl
  · rfl
  · exact am_sub0 _
  · exact ⟨p2, rfl, rfl, hp.1⟩
  · exact feJ_length p2
  · exact rfl
  · rfl
  · exact am_mix0 _
  refine am_if (c := (p1 - p0) = (fnJ_length p2)) (fun h1 => ?_) (fun h1 => ?_)
  · have q1 := hp.2.1 h1
    have e : fn5_spells x p0 p1 p2 = fn5_spells_c20 hg_fu x p0 p2 (1 : Int32) (0 : Int32) := by
      rw [fq5_spells]
      rw [if_pos h1]
    rw [e]
    exact i20 hg_fu x p0 p2 (1 : Int32) (0 : Int32) _ rfl q1
  · have q1 := hp.2.2 h1
    have e : fn5_spells x p0 p1 p2 = fn5_spells_c20 hg_fu x p0 p2 (0 : Int32) (0 : Int32) := by
      rw [fq5_spells]
      rw [if_neg h1]
    rw [e]
    exact i20 hg_fu x p0 p2 (0 : Int32) (0 : Int32) _ rfl q1
abbrev pr5_spells : List am_V → List am_C → Prop := fun a w => ∃ (x : qt5) (p0 : Int32) (p1 : Int32) (p2 : Nat), a = [.inr (.inl 0), .inl p0, .inl p1, .inr (.inr (p2 + 1))] ∧ w = (kw_S x) ∧ wp5_spells x p0 p1 p2
noncomputable def fm5_spells : am_M := fun a w => (fun (z : Int32) => (some (.inl z), (kw_S (qs5 w 0)), 0, 0)) (fn5_spells (qs5 w 0) (am_i (am_an a 1)) (am_i (am_an a 2)) (am_n (am_an a 3)))
theorem fe5_spells (x : qt5) (p0 : Int32) (p1 : Int32) (p2 : Nat) : fm5_spells [.inr (.inl 0), .inl p0, .inl p1, .inr (.inr (p2 + 1))] (kw_S x) = (some (.inl (fn5_spells x p0 p1 p2)), (kw_S x), 0, 0) := rfl
set_option maxRecDepth 100000 in
set_option maxHeartbeats 4000000 in
theorem rn5_spells : ∀ (a : List am_V) (w : List am_C), pr5_spells a w → ∃ nq, am_ev (am_mk kb5_spells (fm5_spells a w).2.2.1 (fm5_spells a w).2.2.2 w.length) [20] nq (0, am_L0 a 6, [], w, 0, 0) = some ((fm5_spells a w).1, (fm5_spells a w).2.1) := by
  rintro a w ⟨x, p0, p1, p2, rfl, rfl, hp⟩
  rw [fe5_spells x p0 p1 p2]
  exact am_lf_ev (re5_spells x p0 p1 p2 hp)
theorem rl5_spells : ∀ (a : List am_V) (w : List am_C), pr5_spells a w → a.length ≤ 6 := by
  rintro a w ⟨x, p0, p1, p2, rfl, rfl, hp⟩
  exact Nat.le_of_ble_eq_true rfl
theorem pa5_spells : ∀ a w, pr5_spells a w → ∃ q a' ci fs r, a = .inr (.inl q) :: a' ∧ w[q]? = some (.inr (ci, fs)) ∧ hn_cl[ci]? = some r ∧ r.1 = hn_R5 := by
  rintro a w ⟨x, p0, p1, p2, rfl, rfl, hp⟩
  exact ⟨0, _, 5, _, _, rfl, rfl, rfl, rfl⟩
set_option maxRecDepth 100000 in
set_option maxHeartbeats 4000000 in
theorem km5_spells {l : Launch} {E : (Nat → Prop) → State → Prop} {D : va_G} {ou : Nat → Nat} {ca : Nat → ClassId} (hE : hg_E E ou) : hg_Met l E D ou ca hy5_spells prog_7_method_16_code 6 (some .boolean) 4 pr5_spells fm5_spells := by
  refine am_met (B := kb5_spells) (cuts := [20]) (nt := 5) (by decide +kernel) rfl rfl (hg_tys_ok ca) ?_ (by decide) rl5_spells ?_ rn5_spells
  · exact fun t ht => List.mem_cons_of_mem _ (hg_arr t ht)
  · intro a w hp ad p e R s m args below meth c hR X hEs hnm
    have hR1 : 4 ≤ R.frames ∧ 160 ≤ R.locals := by rw [hR]; exact ⟨Nat.le_refl _, Nat.le_refl _⟩
    have hN := hE.2.1 _ _ hEs
    refine ⟨kd5_spells_ok, fun index ci fi mode hq => kf5_ok X.2.2.2.2.1 hN.1 (index, ci, fi, mode) (am_as_mem hq), fun index ci fs hq => (am_no hq).elim, fun x v hq => (am_no hq).elim, ?_, fun o t n f hq => (am_no hq).elim, rfl, rfl, by rw [hR]; exact Nat.le_refl _, by rw [hR]; exact Nat.le_refl _⟩
    intro pc sel n0 pre0 f0 hq
    have hz : ∀ q ∈ ki5_spells, am_CK p l e R s m args below meth c D hn_cl (va_A (am_w ad ou ca w) s.heap.size) ou ca 6 q.1 q.2.2.1 q.2.2.2.1 q.2.2.2.2 := by
      refine am_allc (am_ck_VS (n := 0) X hEs hE (kmJ_length hE) (hg_good (gw_mem 367 (by decide +kernel))) rfl (List.mem_cons_of_mem _ (gw_mem 83 (by decide +kernel))) (List.mem_cons_of_mem _ (gw_mem 364 (by decide +kernel))) (List.mem_cons_of_mem _ (gw_mem 365 (by decide +kernel))) (List.mem_cons_of_mem _ (gw_mem 366 (by decide +kernel))) rfl paJ_length (by decide +kernel) ⟨Nat.le_trans (by decide) hR1.1, Nat.le_trans (by decide) hR1.2⟩ (kd5_spells_ok (4, .invokevirtual 74, 3) (List.mem_of_getElem? (i := 4) rfl))) (am_allc (am_ck_VS (n := 0) X hEs hE (kmJ_length hE) (hg_good (gw_mem 367 (by decide +kernel))) rfl (List.mem_cons_of_mem _ (gw_mem 83 (by decide +kernel))) (List.mem_cons_of_mem _ (gw_mem 364 (by decide +kernel))) (List.mem_cons_of_mem _ (gw_mem 365 (by decide +kernel))) (List.mem_cons_of_mem _ (gw_mem 366 (by decide +kernel))) rfl paJ_length (by decide +kernel) ⟨Nat.le_trans (by decide) hR1.1, Nat.le_trans (by decide) hR1.2⟩ (kd5_spells_ok (23, .invokevirtual 74, 3) (List.mem_of_getElem? (i := 14) rfl))) (am_allc (am_ck_V (n := 1) X hEs hE.1 (km5_sign hE) (hg_good (gw_mem 352 (by decide +kernel))) rfl (List.mem_cons_of_mem _ (gw_mem 73 (by decide +kernel))) (List.mem_cons_of_mem _ (gw_mem 374 (by decide +kernel))) (List.mem_cons_of_mem _ (gw_mem 350 (by decide +kernel))) (List.mem_cons_of_mem _ (gw_mem 351 (by decide +kernel))) pa5_sign (by decide +kernel) ⟨Nat.le_trans (by decide) hR1.1, Nat.le_trans (by decide) hR1.2⟩ (kd5_spells_ok (39, .invokevirtual 79, 3) (List.mem_of_getElem? (i := 22) rfl))) (am_allc (am_ck_VS (n := 1) X hEs hE (kmJ_charAt hE) (hg_good (gw_mem 378 (by decide +kernel))) rfl (List.mem_cons_of_mem _ (gw_mem 83 (by decide +kernel))) (List.mem_cons_of_mem _ (gw_mem 375 (by decide +kernel))) (List.mem_cons_of_mem _ (gw_mem 376 (by decide +kernel))) (List.mem_cons_of_mem _ (gw_mem 377 (by decide +kernel))) rfl paJ_charAt (by decide +kernel) ⟨Nat.le_trans (by decide) hR1.1, Nat.le_trans (by decide) hR1.2⟩ (kd5_spells_ok (45, .invokevirtual 82, 3) (List.mem_of_getElem? (i := 25) rfl))) (am_all0))))
    exact hz _ (am_as_mem hq)
noncomputable def ki5_behindLetters : List (Nat × Option (List Nat) × Nat × (List am_V → List am_C → Prop) × am_M) := [(12, none, 2, pr5_sign, fm5_sign), (15, some [], 1, pr4_isLetter, fm4_isLetter)]
noncomputable def kb5_behindLetters : am_B := (kd5_behindLetters, am_as kf5, hn_ty, fun _ => none, fun _ => none, am_as ki5_behindLetters, fun _ => none, 5, 3, (some .int))
noncomputable def fn5_behindLetters_c2 : Nat → qt5 → Int32 → Int32
  | 0, _, _ => 0
  | fu + 1, x, v2 => (if (qg5_count x) ≤ v2 then v2 else (if (fn4_isLetter (fn5_sign x v2)) = 0 then v2 else (fn5_behindLetters_c2 fu x (v2 + (1 : Int32)))))
def wp5_behindLetters_c2 : Nat → qt5 → Int32 → Prop
  | 0, _, _ => False
  | fu + 1, x, v2 => (((qg5_count x) ≤ v2 → True) ∧ (¬ (qg5_count x) ≤ v2 → ((wp5_sign x v2) ∧ ((wp4_isLetter (fn5_sign x v2)) ∧ (((fn4_isLetter (fn5_sign x v2)) = 0 → True) ∧ (¬ (fn4_isLetter (fn5_sign x v2)) = 0 → (wp5_behindLetters_c2 fu x (v2 + (1 : Int32)))))))))
set_option maxRecDepth 100000 in
set_option maxHeartbeats 4000000 in
theorem rc5_behindLetters_2 : ∀ (fu : Nat) (x : qt5) (v2 : Int32) (j1 : Option am_V) (g1 : am_loO 8 j1 = true) , wp5_behindLetters_c2 fu x v2 → am_lf (am_mk kb5_behindLetters 0 0 8) [2] (2, [some (.inr (.inl 0)), j1, some (.inl v2)], [], (kw_S x), 0, 0) = some (some (.inl (fn5_behindLetters_c2 fu x v2)), (kw_S x)) := by
  intro fu
  induction fu with
  | zero =>
    intro x v2 j1 g1 hp
    exact hp.elim
  | succ fu ih =>
    intro x v2 j1 g1 hp
    unfold wp5_behindLetters_c2 at hp
    refine am_lf_eq ?_
    generalize am_lf (am_mk kb5_behindLetters 0 0 8) [2] = kt at ih ⊢
    refine am_if (c := (qg5_count x) ≤ v2) (fun h2 => ?_) (fun h2 => ?_)
    · have e : fn5_behindLetters_c2 (fu + 1) x v2 = v2 := by
        rw [fn5_behindLetters_c2]
        rw [if_pos h2]
      rw [e] <;> rfl
    · have q2 := hp.2 h2
      refine am_cx (pre := pr5_sign) (f := fm5_sign) (r := (some (.inl (fn5_sign x v2)), (kw_S x), 0, 0)) ?_ ?_ ?_ ?_
      · exact ⟨x, v2, rfl, rfl, q2.1⟩
      · exact fe5_sign x v2
      · exact (am_ac rfl (am_ac g1 (am_ac rfl am_a0)))
      refine am_cy (pre := pr4_isLetter) (f := fm4_isLetter) (a' := [.inl (fn5_sign x v2)]) (wc := []) (w' := (kw_S x)) (r := (some (.inl (fn4_isLetter (fn5_sign x v2))), [], 0, 0)) ?_ ?_ ?_ ?_ ?_ ?_ ?_ ?_ ?_ ?_
      · exact am_sow0 _
      · rfl
      · rfl
      · exact am_sub0 _
      · exact ⟨(fn5_sign x v2), rfl, rfl, q2.2.1⟩
      · exact fe4_isLetter (fn5_sign x v2)
      · exact rfl
      · rfl
      · exact am_mix0 _
      refine am_if (c := (fn4_isLetter (fn5_sign x v2)) = 0) (fun h3 => ?_) (fun h3 => ?_)
      · have e : fn5_behindLetters_c2 (fu + 1) x v2 = v2 := by
          rw [fn5_behindLetters_c2]
          rw [if_neg h2, if_pos h3]
        rw [e] <;> rfl
      · have q3 := q2.2.2.2 h3
        have e : fn5_behindLetters_c2 (fu + 1) x v2 = fn5_behindLetters_c2 fu x (v2 + (1 : Int32)) := by
          rw [fn5_behindLetters_c2]
          rw [if_neg h2, if_neg h3]
        rw [e]
        exact ih x (v2 + (1 : Int32)) _ g1 q3
noncomputable def fn5_behindLetters (x : qt5) (p0 : Int32) : Int32 := Classical.choose (⟨_, rfl⟩ : ∃ z : Int32, z = (fn5_behindLetters_c2 hg_fu x p0))
theorem fq5_behindLetters (x : qt5) (p0 : Int32) : fn5_behindLetters x p0 = (fn5_behindLetters_c2 hg_fu x p0) := Classical.choose_spec (⟨_, rfl⟩ : ∃ z : Int32, z = (fn5_behindLetters_c2 hg_fu x p0))
def wp5_behindLetters (x : qt5) (p0 : Int32) : Prop := (wp5_behindLetters_c2 hg_fu x p0)
set_option maxRecDepth 100000 in
set_option maxHeartbeats 4000000 in
theorem re5_behindLetters (x : qt5) (p0 : Int32) (hp : wp5_behindLetters x p0) : am_lf (am_mk kb5_behindLetters 0 0 8) [2] (0, am_L0 [.inr (.inl 0), .inl p0] 3, [], (kw_S x), 0, 0) = some (some (.inl (fn5_behindLetters x p0)), (kw_S x)) := by
  unfold wp5_behindLetters at hp
  have i2 := @rc5_behindLetters_2
  refine am_lf_eq ?_
  generalize am_lf (am_mk kb5_behindLetters 0 0 8) [2] = kt at i2 ⊢
  have e : fn5_behindLetters x p0 = fn5_behindLetters_c2 hg_fu x p0 := by
    rw [fq5_behindLetters]
  rw [e]
  exact i2 hg_fu x p0 _ rfl hp
abbrev pr5_behindLetters : List am_V → List am_C → Prop := fun a w => ∃ (x : qt5) (p0 : Int32), a = [.inr (.inl 0), .inl p0] ∧ w = (kw_S x) ∧ wp5_behindLetters x p0
noncomputable def fm5_behindLetters : am_M := fun a w => (fun (z : Int32) => (some (.inl z), (kw_S (qs5 w 0)), 0, 0)) (fn5_behindLetters (qs5 w 0) (am_i (am_an a 1)))
theorem fe5_behindLetters (x : qt5) (p0 : Int32) : fm5_behindLetters [.inr (.inl 0), .inl p0] (kw_S x) = (some (.inl (fn5_behindLetters x p0)), (kw_S x), 0, 0) := rfl
set_option maxRecDepth 100000 in
set_option maxHeartbeats 4000000 in
theorem rn5_behindLetters : ∀ (a : List am_V) (w : List am_C), pr5_behindLetters a w → ∃ nq, am_ev (am_mk kb5_behindLetters (fm5_behindLetters a w).2.2.1 (fm5_behindLetters a w).2.2.2 w.length) [2] nq (0, am_L0 a 3, [], w, 0, 0) = some ((fm5_behindLetters a w).1, (fm5_behindLetters a w).2.1) := by
  rintro a w ⟨x, p0, rfl, rfl, hp⟩
  rw [fe5_behindLetters x p0]
  exact am_lf_ev (re5_behindLetters x p0 hp)
theorem rl5_behindLetters : ∀ (a : List am_V) (w : List am_C), pr5_behindLetters a w → a.length ≤ 3 := by
  rintro a w ⟨x, p0, rfl, rfl, hp⟩
  exact Nat.le_of_ble_eq_true rfl
theorem pa5_behindLetters : ∀ a w, pr5_behindLetters a w → ∃ q a' ci fs r, a = .inr (.inl q) :: a' ∧ w[q]? = some (.inr (ci, fs)) ∧ hn_cl[ci]? = some r ∧ r.1 = hn_R5 := by
  rintro a w ⟨x, p0, rfl, rfl, hp⟩
  exact ⟨0, _, 5, _, _, rfl, rfl, rfl, rfl⟩
set_option maxRecDepth 100000 in
set_option maxHeartbeats 4000000 in
theorem km5_behindLetters {l : Launch} {E : (Nat → Prop) → State → Prop} {D : va_G} {ou : Nat → Nat} {ca : Nat → ClassId} (hE : hg_E E ou) : hg_Met l E D ou ca hy5_behindLetters prog_7_method_17_code 3 (some .int) 1 pr5_behindLetters fm5_behindLetters := by
  refine am_met (B := kb5_behindLetters) (cuts := [2]) (nt := 5) (by decide +kernel) rfl rfl (hg_tys_ok ca) ?_ (by decide) rl5_behindLetters ?_ rn5_behindLetters
  · exact fun t ht => List.mem_cons_of_mem _ (hg_arr t ht)
  · intro a w hp ad p e R s m args below meth c hR X hEs hnm
    have hR1 : 1 ≤ R.frames ∧ 40 ≤ R.locals := by rw [hR]; exact ⟨Nat.le_refl _, Nat.le_refl _⟩
    have hN := hE.2.1 _ _ hEs
    refine ⟨kd5_behindLetters_ok, fun index ci fi mode hq => kf5_ok X.2.2.2.2.1 hN.1 (index, ci, fi, mode) (am_as_mem hq), fun index ci fs hq => (am_no hq).elim, fun x v hq => (am_no hq).elim, ?_, fun o t n f hq => (am_no hq).elim, rfl, rfl, by rw [hR]; exact Nat.le_refl _, by rw [hR]; exact Nat.le_refl _⟩
    intro pc sel n0 pre0 f0 hq
    have hz : ∀ q ∈ ki5_behindLetters, am_CK p l e R s m args below meth c D hn_cl (va_A (am_w ad ou ca w) s.heap.size) ou ca 3 q.1 q.2.2.1 q.2.2.2.1 q.2.2.2.2 := by
      refine am_allc (am_ck_V (n := 1) X hEs hE.1 (km5_sign hE) (hg_good (gw_mem 352 (by decide +kernel))) rfl (List.mem_cons_of_mem _ (gw_mem 73 (by decide +kernel))) (List.mem_cons_of_mem _ (gw_mem 374 (by decide +kernel))) (List.mem_cons_of_mem _ (gw_mem 350 (by decide +kernel))) (List.mem_cons_of_mem _ (gw_mem 351 (by decide +kernel))) pa5_sign (by decide +kernel) ⟨Nat.le_trans (by decide) hR1.1, Nat.le_trans (by decide) hR1.2⟩ (kd5_behindLetters_ok (12, .invokevirtual 79, 3) (List.mem_of_getElem? (i := 8) rfl))) (am_allc (am_ck_S (n := 1) X hEs hE.1 (km4_isLetter hE) (hg_good (gw_mem 423 (by decide +kernel))) rfl (List.mem_cons_of_mem _ (gw_mem 77 (by decide +kernel))) (List.mem_cons_of_mem _ (gw_mem 421 (by decide +kernel))) (List.mem_cons_of_mem _ (gw_mem 422 (by decide +kernel))) (by decide +kernel) ⟨Nat.le_trans (by decide) hR1.1, Nat.le_trans (by decide) hR1.2⟩ (kd5_behindLetters_ok (15, .invokestatic 85, 3) (List.mem_of_getElem? (i := 9) rfl))) (am_all0))
    exact hz _ (am_as_mem hq)
noncomputable def ki5_behindName : List (Nat × Option (List Nat) × Nat × (List am_V → List am_C → Prop) × am_M) := [(12, none, 2, pr5_sign, fm5_sign), (15, some [], 1, pr4_isLetter, fm4_isLetter), (23, none, 2, pr5_sign, fm5_sign)]
noncomputable def kb5_behindName : am_B := (kd5_behindName, am_as kf5, hn_ty, fun _ => none, fun _ => none, am_as ki5_behindName, fun _ => none, 5, 3, (some .int))
noncomputable def fn5_behindName_c2 : Nat → qt5 → Int32 → Int32
  | 0, _, _ => 0
  | fu + 1, x, v2 => (if (qg5_count x) ≤ v2 then v2 else (if (fn4_isLetter (fn5_sign x v2)) = 0 then (if (fn5_sign x v2) = (45 : Int32) then (fn5_behindName_c2 fu x (v2 + (1 : Int32))) else v2) else (fn5_behindName_c2 fu x (v2 + (1 : Int32)))))
def wp5_behindName_c2 : Nat → qt5 → Int32 → Prop
  | 0, _, _ => False
  | fu + 1, x, v2 => (((qg5_count x) ≤ v2 → True) ∧ (¬ (qg5_count x) ≤ v2 → ((wp5_sign x v2) ∧ ((wp4_isLetter (fn5_sign x v2)) ∧ (((fn4_isLetter (fn5_sign x v2)) = 0 → ((wp5_sign x v2) ∧ (((fn5_sign x v2) = (45 : Int32) → (wp5_behindName_c2 fu x (v2 + (1 : Int32)))) ∧ (¬ (fn5_sign x v2) = (45 : Int32) → True)))) ∧ (¬ (fn4_isLetter (fn5_sign x v2)) = 0 → (wp5_behindName_c2 fu x (v2 + (1 : Int32)))))))))
set_option maxRecDepth 100000 in
set_option maxHeartbeats 4000000 in
theorem rc5_behindName_2 : ∀ (fu : Nat) (x : qt5) (v2 : Int32) (j1 : Option am_V) (g1 : am_loO 8 j1 = true) , wp5_behindName_c2 fu x v2 → am_lf (am_mk kb5_behindName 0 0 8) [2] (2, [some (.inr (.inl 0)), j1, some (.inl v2)], [], (kw_S x), 0, 0) = some (some (.inl (fn5_behindName_c2 fu x v2)), (kw_S x)) := by
  intro fu
  induction fu with
  | zero =>
    intro x v2 j1 g1 hp
    exact hp.elim
  | succ fu ih =>
    intro x v2 j1 g1 hp
    unfold wp5_behindName_c2 at hp
    refine am_lf_eq ?_
    generalize am_lf (am_mk kb5_behindName 0 0 8) [2] = kt at ih ⊢
    refine am_if (c := (qg5_count x) ≤ v2) (fun h2 => ?_) (fun h2 => ?_)
    · have e : fn5_behindName_c2 (fu + 1) x v2 = v2 := by
        rw [fn5_behindName_c2]
        rw [if_pos h2]
      rw [e] <;> rfl
    · have q2 := hp.2 h2
      refine am_cx (pre := pr5_sign) (f := fm5_sign) (r := (some (.inl (fn5_sign x v2)), (kw_S x), 0, 0)) ?_ ?_ ?_ ?_
      · exact ⟨x, v2, rfl, rfl, q2.1⟩
      · exact fe5_sign x v2
      · exact (am_ac rfl (am_ac g1 (am_ac rfl am_a0)))
      refine am_cy (pre := pr4_isLetter) (f := fm4_isLetter) (a' := [.inl (fn5_sign x v2)]) (wc := []) (w' := (kw_S x)) (r := (some (.inl (fn4_isLetter (fn5_sign x v2))), [], 0, 0)) ?_ ?_ ?_ ?_ ?_ ?_ ?_ ?_ ?_ ?_
      · exact am_sow0 _
      · rfl
      · rfl
      · exact am_sub0 _
      · exact ⟨(fn5_sign x v2), rfl, rfl, q2.2.1⟩
      · exact fe4_isLetter (fn5_sign x v2)
      · exact rfl
      · rfl
      · exact am_mix0 _
      refine am_if (c := (fn4_isLetter (fn5_sign x v2)) = 0) (fun h3 => ?_) (fun h3 => ?_)
      · have q3 := q2.2.2.1 h3
        refine am_cx (pre := pr5_sign) (f := fm5_sign) (r := (some (.inl (fn5_sign x v2)), (kw_S x), 0, 0)) ?_ ?_ ?_ ?_
        · exact ⟨x, v2, rfl, rfl, q3.1⟩
        · exact fe5_sign x v2
        · exact (am_ac rfl (am_ac g1 (am_ac rfl am_a0)))
        refine am_if (c := (fn5_sign x v2) = (45 : Int32)) (fun h4 => ?_) (fun h4 => ?_)
        · have q4 := q3.2.1 h4
          have e : fn5_behindName_c2 (fu + 1) x v2 = fn5_behindName_c2 fu x (v2 + (1 : Int32)) := by
            rw [fn5_behindName_c2]
            rw [if_neg h2, if_pos h3, if_pos h4]
          rw [e]
          exact ih x (v2 + (1 : Int32)) _ g1 q4
        · have e : fn5_behindName_c2 (fu + 1) x v2 = v2 := by
            rw [fn5_behindName_c2]
            rw [if_neg h2, if_pos h3, if_neg h4]
          rw [e] <;> rfl
      · have q3 := q2.2.2.2 h3
        have e : fn5_behindName_c2 (fu + 1) x v2 = fn5_behindName_c2 fu x (v2 + (1 : Int32)) := by
          rw [fn5_behindName_c2]
          rw [if_neg h2, if_neg h3]
        rw [e]
        exact ih x (v2 + (1 : Int32)) _ g1 q3
noncomputable def fn5_behindName (x : qt5) (p0 : Int32) : Int32 := Classical.choose (⟨_, rfl⟩ : ∃ z : Int32, z = (fn5_behindName_c2 hg_fu x p0))
theorem fq5_behindName (x : qt5) (p0 : Int32) : fn5_behindName x p0 = (fn5_behindName_c2 hg_fu x p0) := Classical.choose_spec (⟨_, rfl⟩ : ∃ z : Int32, z = (fn5_behindName_c2 hg_fu x p0))
def wp5_behindName (x : qt5) (p0 : Int32) : Prop := (wp5_behindName_c2 hg_fu x p0)
set_option maxRecDepth 100000 in
set_option maxHeartbeats 4000000 in
theorem re5_behindName (x : qt5) (p0 : Int32) (hp : wp5_behindName x p0) : am_lf (am_mk kb5_behindName 0 0 8) [2] (0, am_L0 [.inr (.inl 0), .inl p0] 3, [], (kw_S x), 0, 0) = some (some (.inl (fn5_behindName x p0)), (kw_S x)) := by
  unfold wp5_behindName at hp
  have i2 := @rc5_behindName_2
  refine am_lf_eq ?_
  generalize am_lf (am_mk kb5_behindName 0 0 8) [2] = kt at i2 ⊢
  have e : fn5_behindName x p0 = fn5_behindName_c2 hg_fu x p0 := by
    rw [fq5_behindName]
  rw [e]
  exact i2 hg_fu x p0 _ rfl hp
abbrev pr5_behindName : List am_V → List am_C → Prop := fun a w => ∃ (x : qt5) (p0 : Int32), a = [.inr (.inl 0), .inl p0] ∧ w = (kw_S x) ∧ wp5_behindName x p0
noncomputable def fm5_behindName : am_M := fun a w => (fun (z : Int32) => (some (.inl z), (kw_S (qs5 w 0)), 0, 0)) (fn5_behindName (qs5 w 0) (am_i (am_an a 1)))
theorem fe5_behindName (x : qt5) (p0 : Int32) : fm5_behindName [.inr (.inl 0), .inl p0] (kw_S x) = (some (.inl (fn5_behindName x p0)), (kw_S x), 0, 0) := rfl
set_option maxRecDepth 100000 in
set_option maxHeartbeats 4000000 in
theorem rn5_behindName : ∀ (a : List am_V) (w : List am_C), pr5_behindName a w → ∃ nq, am_ev (am_mk kb5_behindName (fm5_behindName a w).2.2.1 (fm5_behindName a w).2.2.2 w.length) [2] nq (0, am_L0 a 3, [], w, 0, 0) = some ((fm5_behindName a w).1, (fm5_behindName a w).2.1) := by
  rintro a w ⟨x, p0, rfl, rfl, hp⟩
  rw [fe5_behindName x p0]
  exact am_lf_ev (re5_behindName x p0 hp)
theorem rl5_behindName : ∀ (a : List am_V) (w : List am_C), pr5_behindName a w → a.length ≤ 3 := by
  rintro a w ⟨x, p0, rfl, rfl, hp⟩
  exact Nat.le_of_ble_eq_true rfl
theorem pa5_behindName : ∀ a w, pr5_behindName a w → ∃ q a' ci fs r, a = .inr (.inl q) :: a' ∧ w[q]? = some (.inr (ci, fs)) ∧ hn_cl[ci]? = some r ∧ r.1 = hn_R5 := by
  rintro a w ⟨x, p0, rfl, rfl, hp⟩
  exact ⟨0, _, 5, _, _, rfl, rfl, rfl, rfl⟩
set_option maxRecDepth 100000 in
set_option maxHeartbeats 4000000 in
theorem km5_behindName {l : Launch} {E : (Nat → Prop) → State → Prop} {D : va_G} {ou : Nat → Nat} {ca : Nat → ClassId} (hE : hg_E E ou) : hg_Met l E D ou ca hy5_behindName prog_7_method_18_code 3 (some .int) 1 pr5_behindName fm5_behindName := by
  refine am_met (B := kb5_behindName) (cuts := [2]) (nt := 5) (by decide +kernel) rfl rfl (hg_tys_ok ca) ?_ (by decide) rl5_behindName ?_ rn5_behindName
  · exact fun t ht => List.mem_cons_of_mem _ (hg_arr t ht)
  · intro a w hp ad p e R s m args below meth c hR X hEs hnm
    have hR1 : 1 ≤ R.frames ∧ 40 ≤ R.locals := by rw [hR]; exact ⟨Nat.le_refl _, Nat.le_refl _⟩
    have hN := hE.2.1 _ _ hEs
    refine ⟨kd5_behindName_ok, fun index ci fi mode hq => kf5_ok X.2.2.2.2.1 hN.1 (index, ci, fi, mode) (am_as_mem hq), fun index ci fs hq => (am_no hq).elim, fun x v hq => (am_no hq).elim, ?_, fun o t n f hq => (am_no hq).elim, rfl, rfl, by rw [hR]; exact Nat.le_refl _, by rw [hR]; exact Nat.le_refl _⟩
    intro pc sel n0 pre0 f0 hq
    have hz : ∀ q ∈ ki5_behindName, am_CK p l e R s m args below meth c D hn_cl (va_A (am_w ad ou ca w) s.heap.size) ou ca 3 q.1 q.2.2.1 q.2.2.2.1 q.2.2.2.2 := by
      refine am_allc (am_ck_V (n := 1) X hEs hE.1 (km5_sign hE) (hg_good (gw_mem 352 (by decide +kernel))) rfl (List.mem_cons_of_mem _ (gw_mem 73 (by decide +kernel))) (List.mem_cons_of_mem _ (gw_mem 374 (by decide +kernel))) (List.mem_cons_of_mem _ (gw_mem 350 (by decide +kernel))) (List.mem_cons_of_mem _ (gw_mem 351 (by decide +kernel))) pa5_sign (by decide +kernel) ⟨Nat.le_trans (by decide) hR1.1, Nat.le_trans (by decide) hR1.2⟩ (kd5_behindName_ok (12, .invokevirtual 79, 3) (List.mem_of_getElem? (i := 8) rfl))) (am_allc (am_ck_S (n := 1) X hEs hE.1 (km4_isLetter hE) (hg_good (gw_mem 423 (by decide +kernel))) rfl (List.mem_cons_of_mem _ (gw_mem 77 (by decide +kernel))) (List.mem_cons_of_mem _ (gw_mem 421 (by decide +kernel))) (List.mem_cons_of_mem _ (gw_mem 422 (by decide +kernel))) (by decide +kernel) ⟨Nat.le_trans (by decide) hR1.1, Nat.le_trans (by decide) hR1.2⟩ (kd5_behindName_ok (15, .invokestatic 85, 3) (List.mem_of_getElem? (i := 9) rfl))) (am_allc (am_ck_V (n := 1) X hEs hE.1 (km5_sign hE) (hg_good (gw_mem 352 (by decide +kernel))) rfl (List.mem_cons_of_mem _ (gw_mem 73 (by decide +kernel))) (List.mem_cons_of_mem _ (gw_mem 374 (by decide +kernel))) (List.mem_cons_of_mem _ (gw_mem 350 (by decide +kernel))) (List.mem_cons_of_mem _ (gw_mem 351 (by decide +kernel))) pa5_sign (by decide +kernel) ⟨Nat.le_trans (by decide) hR1.1, Nat.le_trans (by decide) hR1.2⟩ (kd5_behindName_ok (23, .invokevirtual 79, 3) (List.mem_of_getElem? (i := 13) rfl))) (am_all0)))
    exact hz _ (am_as_mem hq)
noncomputable def ki5_behindBlanks : List (Nat × Option (List Nat) × Nat × (List am_V → List am_C → Prop) × am_M) := [(12, none, 2, pr5_sign, fm5_sign), (15, some [], 1, pr4_isBlank, fm4_isBlank)]
noncomputable def kb5_behindBlanks : am_B := (kd5_behindBlanks, am_as kf5, hn_ty, fun _ => none, fun _ => none, am_as ki5_behindBlanks, fun _ => none, 5, 3, (some .int))
noncomputable def fn5_behindBlanks_c2 : Nat → qt5 → Int32 → Int32
  | 0, _, _ => 0
  | fu + 1, x, v2 => (if (qg5_count x) ≤ v2 then v2 else (if (fn4_isBlank (fn5_sign x v2)) = 0 then v2 else (fn5_behindBlanks_c2 fu x (v2 + (1 : Int32)))))
def wp5_behindBlanks_c2 : Nat → qt5 → Int32 → Prop
  | 0, _, _ => False
  | fu + 1, x, v2 => (((qg5_count x) ≤ v2 → True) ∧ (¬ (qg5_count x) ≤ v2 → ((wp5_sign x v2) ∧ ((wp4_isBlank (fn5_sign x v2)) ∧ (((fn4_isBlank (fn5_sign x v2)) = 0 → True) ∧ (¬ (fn4_isBlank (fn5_sign x v2)) = 0 → (wp5_behindBlanks_c2 fu x (v2 + (1 : Int32)))))))))
set_option maxRecDepth 100000 in
set_option maxHeartbeats 4000000 in
theorem rc5_behindBlanks_2 : ∀ (fu : Nat) (x : qt5) (v2 : Int32) (j1 : Option am_V) (g1 : am_loO 8 j1 = true) , wp5_behindBlanks_c2 fu x v2 → am_lf (am_mk kb5_behindBlanks 0 0 8) [2] (2, [some (.inr (.inl 0)), j1, some (.inl v2)], [], (kw_S x), 0, 0) = some (some (.inl (fn5_behindBlanks_c2 fu x v2)), (kw_S x)) := by
  intro fu
  induction fu with
  | zero =>
    intro x v2 j1 g1 hp
    exact hp.elim
  | succ fu ih =>
    intro x v2 j1 g1 hp
    unfold wp5_behindBlanks_c2 at hp
    refine am_lf_eq ?_
    generalize am_lf (am_mk kb5_behindBlanks 0 0 8) [2] = kt at ih ⊢
    refine am_if (c := (qg5_count x) ≤ v2) (fun h2 => ?_) (fun h2 => ?_)
    · have e : fn5_behindBlanks_c2 (fu + 1) x v2 = v2 := by
        rw [fn5_behindBlanks_c2]
        rw [if_pos h2]
      rw [e] <;> rfl
    · have q2 := hp.2 h2
      refine am_cx (pre := pr5_sign) (f := fm5_sign) (r := (some (.inl (fn5_sign x v2)), (kw_S x), 0, 0)) ?_ ?_ ?_ ?_
      · exact ⟨x, v2, rfl, rfl, q2.1⟩
      · exact fe5_sign x v2
      · exact (am_ac rfl (am_ac g1 (am_ac rfl am_a0)))
      refine am_cy (pre := pr4_isBlank) (f := fm4_isBlank) (a' := [.inl (fn5_sign x v2)]) (wc := []) (w' := (kw_S x)) (r := (some (.inl (fn4_isBlank (fn5_sign x v2))), [], 0, 0)) ?_ ?_ ?_ ?_ ?_ ?_ ?_ ?_ ?_ ?_
      · exact am_sow0 _
      · rfl
      · rfl
      · exact am_sub0 _
      · exact ⟨(fn5_sign x v2), rfl, rfl, q2.2.1⟩
      · exact fe4_isBlank (fn5_sign x v2)
      · exact rfl
      · rfl
      · exact am_mix0 _
      refine am_if (c := (fn4_isBlank (fn5_sign x v2)) = 0) (fun h3 => ?_) (fun h3 => ?_)
      · have e : fn5_behindBlanks_c2 (fu + 1) x v2 = v2 := by
          rw [fn5_behindBlanks_c2]
          rw [if_neg h2, if_pos h3]
        rw [e] <;> rfl
      · have q3 := q2.2.2.2 h3
        have e : fn5_behindBlanks_c2 (fu + 1) x v2 = fn5_behindBlanks_c2 fu x (v2 + (1 : Int32)) := by
          rw [fn5_behindBlanks_c2]
          rw [if_neg h2, if_neg h3]
        rw [e]
        exact ih x (v2 + (1 : Int32)) _ g1 q3
noncomputable def fn5_behindBlanks (x : qt5) (p0 : Int32) : Int32 := Classical.choose (⟨_, rfl⟩ : ∃ z : Int32, z = (fn5_behindBlanks_c2 hg_fu x p0))
theorem fq5_behindBlanks (x : qt5) (p0 : Int32) : fn5_behindBlanks x p0 = (fn5_behindBlanks_c2 hg_fu x p0) := Classical.choose_spec (⟨_, rfl⟩ : ∃ z : Int32, z = (fn5_behindBlanks_c2 hg_fu x p0))
def wp5_behindBlanks (x : qt5) (p0 : Int32) : Prop := (wp5_behindBlanks_c2 hg_fu x p0)
set_option maxRecDepth 100000 in
set_option maxHeartbeats 4000000 in
theorem re5_behindBlanks (x : qt5) (p0 : Int32) (hp : wp5_behindBlanks x p0) : am_lf (am_mk kb5_behindBlanks 0 0 8) [2] (0, am_L0 [.inr (.inl 0), .inl p0] 3, [], (kw_S x), 0, 0) = some (some (.inl (fn5_behindBlanks x p0)), (kw_S x)) := by
  unfold wp5_behindBlanks at hp
  have i2 := @rc5_behindBlanks_2
  refine am_lf_eq ?_
  generalize am_lf (am_mk kb5_behindBlanks 0 0 8) [2] = kt at i2 ⊢
  have e : fn5_behindBlanks x p0 = fn5_behindBlanks_c2 hg_fu x p0 := by
    rw [fq5_behindBlanks]
  rw [e]
  exact i2 hg_fu x p0 _ rfl hp
abbrev pr5_behindBlanks : List am_V → List am_C → Prop := fun a w => ∃ (x : qt5) (p0 : Int32), a = [.inr (.inl 0), .inl p0] ∧ w = (kw_S x) ∧ wp5_behindBlanks x p0
noncomputable def fm5_behindBlanks : am_M := fun a w => (fun (z : Int32) => (some (.inl z), (kw_S (qs5 w 0)), 0, 0)) (fn5_behindBlanks (qs5 w 0) (am_i (am_an a 1)))
theorem fe5_behindBlanks (x : qt5) (p0 : Int32) : fm5_behindBlanks [.inr (.inl 0), .inl p0] (kw_S x) = (some (.inl (fn5_behindBlanks x p0)), (kw_S x), 0, 0) := rfl
set_option maxRecDepth 100000 in
set_option maxHeartbeats 4000000 in
theorem rn5_behindBlanks : ∀ (a : List am_V) (w : List am_C), pr5_behindBlanks a w → ∃ nq, am_ev (am_mk kb5_behindBlanks (fm5_behindBlanks a w).2.2.1 (fm5_behindBlanks a w).2.2.2 w.length) [2] nq (0, am_L0 a 3, [], w, 0, 0) = some ((fm5_behindBlanks a w).1, (fm5_behindBlanks a w).2.1) := by
  rintro a w ⟨x, p0, rfl, rfl, hp⟩
  rw [fe5_behindBlanks x p0]
  exact am_lf_ev (re5_behindBlanks x p0 hp)
theorem rl5_behindBlanks : ∀ (a : List am_V) (w : List am_C), pr5_behindBlanks a w → a.length ≤ 3 := by
  rintro a w ⟨x, p0, rfl, rfl, hp⟩
  exact Nat.le_of_ble_eq_true rfl
theorem pa5_behindBlanks : ∀ a w, pr5_behindBlanks a w → ∃ q a' ci fs r, a = .inr (.inl q) :: a' ∧ w[q]? = some (.inr (ci, fs)) ∧ hn_cl[ci]? = some r ∧ r.1 = hn_R5 := by
  rintro a w ⟨x, p0, rfl, rfl, hp⟩
  exact ⟨0, _, 5, _, _, rfl, rfl, rfl, rfl⟩
set_option maxRecDepth 100000 in
set_option maxHeartbeats 4000000 in
theorem km5_behindBlanks {l : Launch} {E : (Nat → Prop) → State → Prop} {D : va_G} {ou : Nat → Nat} {ca : Nat → ClassId} (hE : hg_E E ou) : hg_Met l E D ou ca hy5_behindBlanks prog_7_method_19_code 3 (some .int) 1 pr5_behindBlanks fm5_behindBlanks := by
  refine am_met (B := kb5_behindBlanks) (cuts := [2]) (nt := 5) (by decide +kernel) rfl rfl (hg_tys_ok ca) ?_ (by decide) rl5_behindBlanks ?_ rn5_behindBlanks
  · exact fun t ht => List.mem_cons_of_mem _ (hg_arr t ht)
  · intro a w hp ad p e R s m args below meth c hR X hEs hnm
    have hR1 : 1 ≤ R.frames ∧ 40 ≤ R.locals := by rw [hR]; exact ⟨Nat.le_refl _, Nat.le_refl _⟩
    have hN := hE.2.1 _ _ hEs
    refine ⟨kd5_behindBlanks_ok, fun index ci fi mode hq => kf5_ok X.2.2.2.2.1 hN.1 (index, ci, fi, mode) (am_as_mem hq), fun index ci fs hq => (am_no hq).elim, fun x v hq => (am_no hq).elim, ?_, fun o t n f hq => (am_no hq).elim, rfl, rfl, by rw [hR]; exact Nat.le_refl _, by rw [hR]; exact Nat.le_refl _⟩
    intro pc sel n0 pre0 f0 hq
    have hz : ∀ q ∈ ki5_behindBlanks, am_CK p l e R s m args below meth c D hn_cl (va_A (am_w ad ou ca w) s.heap.size) ou ca 3 q.1 q.2.2.1 q.2.2.2.1 q.2.2.2.2 := by
      refine am_allc (am_ck_V (n := 1) X hEs hE.1 (km5_sign hE) (hg_good (gw_mem 352 (by decide +kernel))) rfl (List.mem_cons_of_mem _ (gw_mem 73 (by decide +kernel))) (List.mem_cons_of_mem _ (gw_mem 374 (by decide +kernel))) (List.mem_cons_of_mem _ (gw_mem 350 (by decide +kernel))) (List.mem_cons_of_mem _ (gw_mem 351 (by decide +kernel))) pa5_sign (by decide +kernel) ⟨Nat.le_trans (by decide) hR1.1, Nat.le_trans (by decide) hR1.2⟩ (kd5_behindBlanks_ok (12, .invokevirtual 79, 3) (List.mem_of_getElem? (i := 8) rfl))) (am_allc (am_ck_S (n := 1) X hEs hE.1 (km4_isBlank hE) (hg_good (gw_mem 429 (by decide +kernel))) rfl (List.mem_cons_of_mem _ (gw_mem 77 (by decide +kernel))) (List.mem_cons_of_mem _ (gw_mem 460 (by decide +kernel))) (List.mem_cons_of_mem _ (gw_mem 428 (by decide +kernel))) (by decide +kernel) ⟨Nat.le_trans (by decide) hR1.1, Nat.le_trans (by decide) hR1.2⟩ (kd5_behindBlanks_ok (15, .invokestatic 88, 3) (List.mem_of_getElem? (i := 9) rfl))) (am_all0))
    exact hz _ (am_as_mem hq)
noncomputable def ki1_enter : List (Nat × Option (List Nat) × Nat × (List am_V → List am_C → Prop) × am_M) := []
noncomputable def kb1_enter : am_B := (kd1_enter, am_as kf1, hn_ty, fun _ => none, fun _ => none, am_as ki1_enter, fun _ => none, 5, 2, none)
noncomputable def fn1_enter_c20 (c : qt1) : qt1 := (qu1_part c (0 : Int32))
def wp1_enter_c20 (c : qt1) : Prop := True
set_option maxRecDepth 100000 in
set_option maxHeartbeats 4000000 in
theorem rc1_enter_20 (c : qt1) (j1 : Option am_V) (g1 : am_loO 1 j1 = true) (hp : wp1_enter_c20 c) : am_lf (am_mk kb1_enter 0 0 1) [5, 10, 15, 20] (20, [some (.inr (.inl 0)), j1], [], (kw_C c), 0, 0) = some (none, (kw_C (fn1_enter_c20 c))) := by
  unfold wp1_enter_c20 at hp
  refine am_lf_eq ?_
  generalize am_lf (am_mk kb1_enter 0 0 1) [5, 10, 15, 20] = kt
  refine am_sp (w' := (kw_C (qu1_part c (0 : Int32)))) (kp_C_0_part c (0 : Int32)) ?_
  have e : fn1_enter_c20 c = (qu1_part c (0 : Int32)) := by
    rw [fn1_enter_c20]
  rw [e] <;> rfl
noncomputable def fn1_enter_c15 (c : qt1) : qt1 := (fn1_enter_c20 (qu1_kind c (0 : Int32)))
def wp1_enter_c15 (c : qt1) : Prop := (wp1_enter_c20 (qu1_kind c (0 : Int32)))
set_option maxRecDepth 100000 in
set_option maxHeartbeats 4000000 in
theorem rc1_enter_15 (c : qt1) (j1 : Option am_V) (g1 : am_loO 1 j1 = true) (hp : wp1_enter_c15 c) : am_lf (am_mk kb1_enter 0 0 1) [5, 10, 15, 20] (15, [some (.inr (.inl 0)), j1], [], (kw_C c), 0, 0) = some (none, (kw_C (fn1_enter_c15 c))) := by
  unfold wp1_enter_c15 at hp
  have i20 := @rc1_enter_20
  refine am_lf_eq ?_
  generalize am_lf (am_mk kb1_enter 0 0 1) [5, 10, 15, 20] = kt at i20 ⊢
  refine am_sp (w' := (kw_C (qu1_kind c (0 : Int32)))) (kp_C_0_kind c (0 : Int32)) ?_
  have e : fn1_enter_c15 c = fn1_enter_c20 (qu1_kind c (0 : Int32)) := by
    rw [fn1_enter_c15]
  rw [e]
  exact i20 (qu1_kind c (0 : Int32)) _ g1 hp
noncomputable def fn1_enter_c10 (c : qt1) : qt1 := (fn1_enter_c15 (qu1_quote c (0 : Int32)))
def wp1_enter_c10 (c : qt1) : Prop := (wp1_enter_c15 (qu1_quote c (0 : Int32)))
set_option maxRecDepth 100000 in
set_option maxHeartbeats 4000000 in
theorem rc1_enter_10 (c : qt1) (j1 : Option am_V) (g1 : am_loO 1 j1 = true) (hp : wp1_enter_c10 c) : am_lf (am_mk kb1_enter 0 0 1) [5, 10, 15, 20] (10, [some (.inr (.inl 0)), j1], [], (kw_C c), 0, 0) = some (none, (kw_C (fn1_enter_c10 c))) := by
  unfold wp1_enter_c10 at hp
  have i15 := @rc1_enter_15
  refine am_lf_eq ?_
  generalize am_lf (am_mk kb1_enter 0 0 1) [5, 10, 15, 20] = kt at i15 ⊢
  refine am_sp (w' := (kw_C (qu1_quote c (0 : Int32)))) (kp_C_0_quote c (0 : Int32)) ?_
  have e : fn1_enter_c10 c = fn1_enter_c15 (qu1_quote c (0 : Int32)) := by
    rw [fn1_enter_c10]
  rw [e]
  exact i15 (qu1_quote c (0 : Int32)) _ g1 hp
noncomputable def fn1_enter_c5 (c : qt1) : qt1 := (fn1_enter_c10 (qu1_element c (0 : Int32)))
def wp1_enter_c5 (c : qt1) : Prop := (wp1_enter_c10 (qu1_element c (0 : Int32)))
set_option maxRecDepth 100000 in
set_option maxHeartbeats 4000000 in
theorem rc1_enter_5 (c : qt1) (j1 : Option am_V) (g1 : am_loO 1 j1 = true) (hp : wp1_enter_c5 c) : am_lf (am_mk kb1_enter 0 0 1) [5, 10, 15, 20] (5, [some (.inr (.inl 0)), j1], [], (kw_C c), 0, 0) = some (none, (kw_C (fn1_enter_c5 c))) := by
  unfold wp1_enter_c5 at hp
  have i10 := @rc1_enter_10
  refine am_lf_eq ?_
  generalize am_lf (am_mk kb1_enter 0 0 1) [5, 10, 15, 20] = kt at i10 ⊢
  refine am_sp (w' := (kw_C (qu1_element c (0 : Int32)))) (kp_C_0_element c (0 : Int32)) ?_
  have e : fn1_enter_c5 c = fn1_enter_c10 (qu1_element c (0 : Int32)) := by
    rw [fn1_enter_c5]
  rw [e]
  exact i10 (qu1_element c (0 : Int32)) _ g1 hp
noncomputable def fn1_enter (c : qt1) (p0 : Int32) : qt1 := Classical.choose (⟨_, rfl⟩ : ∃ z : qt1, z = (fn1_enter_c5 (qu1_name c p0)))
theorem fq1_enter (c : qt1) (p0 : Int32) : fn1_enter c p0 = (fn1_enter_c5 (qu1_name c p0)) := Classical.choose_spec (⟨_, rfl⟩ : ∃ z : qt1, z = (fn1_enter_c5 (qu1_name c p0)))
def wp1_enter (c : qt1) (p0 : Int32) : Prop := (wp1_enter_c5 (qu1_name c p0))
set_option maxRecDepth 100000 in
set_option maxHeartbeats 4000000 in
theorem re1_enter (c : qt1) (p0 : Int32) (hp : wp1_enter c p0) : am_lf (am_mk kb1_enter 0 0 1) [5, 10, 15, 20] (0, am_L0 [.inr (.inl 0), .inl p0] 2, [], (kw_C c), 0, 0) = some (none, (kw_C (fn1_enter c p0))) := by
  unfold wp1_enter at hp
  have i5 := @rc1_enter_5
  refine am_lf_eq ?_
  generalize am_lf (am_mk kb1_enter 0 0 1) [5, 10, 15, 20] = kt at i5 ⊢
  refine am_sp (w' := (kw_C (qu1_name c p0))) (kp_C_0_name c p0) ?_
  have e : fn1_enter c p0 = fn1_enter_c5 (qu1_name c p0) := by
    rw [fq1_enter]
  rw [e]
  exact i5 (qu1_name c p0) _ rfl hp
abbrev pr1_enter : List am_V → List am_C → Prop := fun a w => ∃ (c : qt1) (p0 : Int32), a = [.inr (.inl 0), .inl p0] ∧ w = (kw_C c) ∧ wp1_enter c p0
noncomputable def fm1_enter : am_M := fun a w => (fun (z : qt1) => (none, (kw_C z), 0, 0)) (fn1_enter (qs1 w 0) (am_i (am_an a 1)))
theorem fe1_enter (c : qt1) (p0 : Int32) : fm1_enter [.inr (.inl 0), .inl p0] (kw_C c) = (none, (kw_C (fn1_enter c p0)), 0, 0) := rfl
set_option maxRecDepth 100000 in
set_option maxHeartbeats 4000000 in
theorem rn1_enter : ∀ (a : List am_V) (w : List am_C), pr1_enter a w → ∃ nq, am_ev (am_mk kb1_enter (fm1_enter a w).2.2.1 (fm1_enter a w).2.2.2 w.length) [5, 10, 15, 20] nq (0, am_L0 a 2, [], w, 0, 0) = some ((fm1_enter a w).1, (fm1_enter a w).2.1) := by
  rintro a w ⟨c, p0, rfl, rfl, hp⟩
  rw [fe1_enter c p0]
  exact am_lf_ev (re1_enter c p0 hp)
theorem rl1_enter : ∀ (a : List am_V) (w : List am_C), pr1_enter a w → a.length ≤ 2 := by
  rintro a w ⟨c, p0, rfl, rfl, hp⟩
  exact Nat.le_of_ble_eq_true rfl
theorem pa1_enter : ∀ a w, pr1_enter a w → ∃ q a' ci fs r, a = .inr (.inl q) :: a' ∧ w[q]? = some (.inr (ci, fs)) ∧ hn_cl[ci]? = some r ∧ r.1 = hn_R1 := by
  rintro a w ⟨c, p0, rfl, rfl, hp⟩
  exact ⟨0, _, 1, _, _, rfl, rfl, rfl, rfl⟩
set_option maxRecDepth 100000 in
set_option maxHeartbeats 4000000 in
theorem km1_enter {l : Launch} {E : (Nat → Prop) → State → Prop} {D : va_G} {ou : Nat → Nat} {ca : Nat → ClassId} (hE : hg_E E ou) : hg_Met l E D ou ca hy1_enter prog_3_method_2_code 2 none 0 pr1_enter fm1_enter := by
  refine am_met (B := kb1_enter) (cuts := [5, 10, 15, 20]) (nt := 5) (by decide +kernel) rfl rfl (hg_tys_ok ca) ?_ (by decide) rl1_enter ?_ rn1_enter
  · exact fun t ht => List.mem_cons_of_mem _ (hg_arr t ht)
  · intro a w hp ad p e R s m args below meth c hR X hEs hnm
    have hR1 : 0 ≤ R.frames ∧ 0 ≤ R.locals := by rw [hR]; exact ⟨Nat.le_refl _, Nat.le_refl _⟩
    have hN := hE.2.1 _ _ hEs
    refine ⟨kd1_enter_ok, fun index ci fi mode hq => kf1_ok X.2.2.2.2.1 hN.1 (index, ci, fi, mode) (am_as_mem hq), fun index ci fs hq => (am_no hq).elim, fun x v hq => (am_no hq).elim, ?_, fun o t n f hq => (am_no hq).elim, rfl, rfl, by rw [hR]; exact Nat.le_refl _, by rw [hR]; exact Nat.le_refl _⟩
    intro pc sel n0 pre0 f0 hq
    exact (am_no hq).elim
noncomputable def ki1_enterTag : List (Nat × Option (List Nat) × Nat × (List am_V → List am_C → Prop) × am_M) := [(2, none, 2, pr1_enter, fm1_enter)]
noncomputable def kb1_enterTag : am_B := (kd1_enterTag, am_as kf1, hn_ty, fun _ => none, fun _ => none, am_as ki1_enterTag, fun _ => none, 5, 2, none)
noncomputable def fn1_enterTag (c : qt1) (p0 : Int32) : qt1 := Classical.choose (⟨_, rfl⟩ : ∃ z : qt1, z = (qu1_element (fn1_enter c (1 : Int32)) p0))
theorem fq1_enterTag (c : qt1) (p0 : Int32) : fn1_enterTag c p0 = (qu1_element (fn1_enter c (1 : Int32)) p0) := Classical.choose_spec (⟨_, rfl⟩ : ∃ z : qt1, z = (qu1_element (fn1_enter c (1 : Int32)) p0))
def wp1_enterTag (c : qt1) (p0 : Int32) : Prop := (wp1_enter c (1 : Int32))
set_option maxRecDepth 100000 in
set_option maxHeartbeats 4000000 in
theorem re1_enterTag (c : qt1) (p0 : Int32) (hp : wp1_enterTag c p0) : am_lf (am_mk kb1_enterTag 0 0 1) [] (0, am_L0 [.inr (.inl 0), .inl p0] 2, [], (kw_C c), 0, 0) = some (none, (kw_C (fn1_enterTag c p0))) := by
  unfold wp1_enterTag at hp
  refine am_lf_eq ?_
  generalize am_lf (am_mk kb1_enterTag 0 0 1) [] = kt
  refine am_cx (pre := pr1_enter) (f := fm1_enter) (r := (none, (kw_C (fn1_enter c (1 : Int32))), 0, 0)) ?_ ?_ ?_ ?_
  · exact ⟨c, (1 : Int32), rfl, rfl, hp⟩
  · exact fe1_enter c (1 : Int32)
  · exact rfl
  refine am_sp (w' := (kw_C (qu1_element (fn1_enter c (1 : Int32)) p0))) (kp_C_0_element (fn1_enter c (1 : Int32)) p0) ?_
  have e : fn1_enterTag c p0 = (qu1_element (fn1_enter c (1 : Int32)) p0) := by
    rw [fq1_enterTag]
  rw [e] <;> rfl
abbrev pr1_enterTag : List am_V → List am_C → Prop := fun a w => ∃ (c : qt1) (p0 : Int32), a = [.inr (.inl 0), .inl p0] ∧ w = (kw_C c) ∧ wp1_enterTag c p0
noncomputable def fm1_enterTag : am_M := fun a w => (fun (z : qt1) => (none, (kw_C z), 0, 0)) (fn1_enterTag (qs1 w 0) (am_i (am_an a 1)))
theorem fe1_enterTag (c : qt1) (p0 : Int32) : fm1_enterTag [.inr (.inl 0), .inl p0] (kw_C c) = (none, (kw_C (fn1_enterTag c p0)), 0, 0) := rfl
set_option maxRecDepth 100000 in
set_option maxHeartbeats 4000000 in
theorem rn1_enterTag : ∀ (a : List am_V) (w : List am_C), pr1_enterTag a w → ∃ nq, am_ev (am_mk kb1_enterTag (fm1_enterTag a w).2.2.1 (fm1_enterTag a w).2.2.2 w.length) [] nq (0, am_L0 a 2, [], w, 0, 0) = some ((fm1_enterTag a w).1, (fm1_enterTag a w).2.1) := by
  rintro a w ⟨c, p0, rfl, rfl, hp⟩
  rw [fe1_enterTag c p0]
  exact am_lf_ev (re1_enterTag c p0 hp)
theorem rl1_enterTag : ∀ (a : List am_V) (w : List am_C), pr1_enterTag a w → a.length ≤ 2 := by
  rintro a w ⟨c, p0, rfl, rfl, hp⟩
  exact Nat.le_of_ble_eq_true rfl
theorem pa1_enterTag : ∀ a w, pr1_enterTag a w → ∃ q a' ci fs r, a = .inr (.inl q) :: a' ∧ w[q]? = some (.inr (ci, fs)) ∧ hn_cl[ci]? = some r ∧ r.1 = hn_R1 := by
  rintro a w ⟨c, p0, rfl, rfl, hp⟩
  exact ⟨0, _, 1, _, _, rfl, rfl, rfl, rfl⟩
set_option maxRecDepth 100000 in
set_option maxHeartbeats 4000000 in
theorem km1_enterTag {l : Launch} {E : (Nat → Prop) → State → Prop} {D : va_G} {ou : Nat → Nat} {ca : Nat → ClassId} (hE : hg_E E ou) : hg_Met l E D ou ca hy1_enterTag prog_3_method_3_code 2 none 1 pr1_enterTag fm1_enterTag := by
  refine am_met (B := kb1_enterTag) (cuts := []) (nt := 5) (by decide +kernel) rfl rfl (hg_tys_ok ca) ?_ (by decide) rl1_enterTag ?_ rn1_enterTag
  · exact fun t ht => List.mem_cons_of_mem _ (hg_arr t ht)
  · intro a w hp ad p e R s m args below meth c hR X hEs hnm
    have hR1 : 1 ≤ R.frames ∧ 40 ≤ R.locals := by rw [hR]; exact ⟨Nat.le_refl _, Nat.le_refl _⟩
    have hN := hE.2.1 _ _ hEs
    refine ⟨kd1_enterTag_ok, fun index ci fi mode hq => kf1_ok X.2.2.2.2.1 hN.1 (index, ci, fi, mode) (am_as_mem hq), fun index ci fs hq => (am_no hq).elim, fun x v hq => (am_no hq).elim, ?_, fun o t n f hq => (am_no hq).elim, rfl, rfl, by rw [hR]; exact Nat.le_refl _, by rw [hR]; exact Nat.le_refl _⟩
    intro pc sel n0 pre0 f0 hq
    have hz : ∀ q ∈ ki1_enterTag, am_CK p l e R s m args below meth c D hn_cl (va_A (am_w ad ou ca w) s.heap.size) ou ca 2 q.1 q.2.2.1 q.2.2.2.1 q.2.2.2.2 := by
      refine am_allc (am_ck_V (n := 1) X hEs hE.1 (km1_enter hE) (hg_good (gw_mem 334 (by decide +kernel))) rfl (List.mem_cons_of_mem _ (gw_mem 74 (by decide +kernel))) (List.mem_cons_of_mem _ (gw_mem 440 (by decide +kernel))) (List.mem_cons_of_mem _ (gw_mem 332 (by decide +kernel))) (List.mem_cons_of_mem _ (gw_mem 333 (by decide +kernel))) pa1_enter (by decide +kernel) ⟨Nat.le_trans (by decide) hR1.1, Nat.le_trans (by decide) hR1.2⟩ (kd1_enterTag_ok (2, .invokevirtual 28, 3) (List.mem_of_getElem? (i := 2) rfl))) (am_all0)
    exact hz _ (am_as_mem hq)
noncomputable def ki1_enterValue : List (Nat × Option (List Nat) × Nat × (List am_V → List am_C → Prop) × am_M) := []
noncomputable def kb1_enterValue : am_B := (kd1_enterValue, am_as kf1, hn_ty, fun _ => none, fun _ => none, am_as ki1_enterValue, fun _ => none, 5, 3, none)
noncomputable def fn1_enterValue_c15 (c : qt1) : qt1 := (qu1_part c (0 : Int32))
def wp1_enterValue_c15 (c : qt1) : Prop := True
set_option maxRecDepth 100000 in
set_option maxHeartbeats 4000000 in
theorem rc1_enterValue_15 (c : qt1) (j1 : Option am_V) (j2 : Option am_V) (g1 : am_loO 1 j1 = true) (g2 : am_loO 1 j2 = true) (hp : wp1_enterValue_c15 c) : am_lf (am_mk kb1_enterValue 0 0 1) [5, 10, 15] (15, [some (.inr (.inl 0)), j1, j2], [], (kw_C c), 0, 0) = some (none, (kw_C (fn1_enterValue_c15 c))) := by
  unfold wp1_enterValue_c15 at hp
  refine am_lf_eq ?_
  generalize am_lf (am_mk kb1_enterValue 0 0 1) [5, 10, 15] = kt
  refine am_sp (w' := (kw_C (qu1_part c (0 : Int32)))) (kp_C_0_part c (0 : Int32)) ?_
  have e : fn1_enterValue_c15 c = (qu1_part c (0 : Int32)) := by
    rw [fn1_enterValue_c15]
  rw [e] <;> rfl
noncomputable def fn1_enterValue_c10 (c : qt1) (v2 : Int32) : qt1 := (fn1_enterValue_c15 (qu1_kind c v2))
def wp1_enterValue_c10 (c : qt1) (v2 : Int32) : Prop := (wp1_enterValue_c15 (qu1_kind c v2))
set_option maxRecDepth 100000 in
set_option maxHeartbeats 4000000 in
theorem rc1_enterValue_10 (c : qt1) (v2 : Int32) (j1 : Option am_V) (g1 : am_loO 1 j1 = true) (hp : wp1_enterValue_c10 c v2) : am_lf (am_mk kb1_enterValue 0 0 1) [5, 10, 15] (10, [some (.inr (.inl 0)), j1, some (.inl v2)], [], (kw_C c), 0, 0) = some (none, (kw_C (fn1_enterValue_c10 c v2))) := by
  unfold wp1_enterValue_c10 at hp
  have i15 := @rc1_enterValue_15
  refine am_lf_eq ?_
  generalize am_lf (am_mk kb1_enterValue 0 0 1) [5, 10, 15] = kt at i15 ⊢
  refine am_sp (w' := (kw_C (qu1_kind c v2))) (kp_C_0_kind c v2) ?_
  have e : fn1_enterValue_c10 c v2 = fn1_enterValue_c15 (qu1_kind c v2) := by
    rw [fn1_enterValue_c10]
  rw [e]
  exact i15 (qu1_kind c v2) _ _ g1 rfl hp
noncomputable def fn1_enterValue_c5 (c : qt1) (v1 : Int32) (v2 : Int32) : qt1 := (fn1_enterValue_c10 (qu1_quote c v1) v2)
def wp1_enterValue_c5 (c : qt1) (v1 : Int32) (v2 : Int32) : Prop := (am_fit .char (.inl v1) = true ∧ (wp1_enterValue_c10 (qu1_quote c v1) v2))
set_option maxRecDepth 100000 in
set_option maxHeartbeats 4000000 in
theorem rc1_enterValue_5 (c : qt1) (v1 : Int32) (v2 : Int32) (hp : wp1_enterValue_c5 c v1 v2) : am_lf (am_mk kb1_enterValue 0 0 1) [5, 10, 15] (5, [some (.inr (.inl 0)), some (.inl v1), some (.inl v2)], [], (kw_C c), 0, 0) = some (none, (kw_C (fn1_enterValue_c5 c v1 v2))) := by
  unfold wp1_enterValue_c5 at hp
  have i10 := @rc1_enterValue_10
  refine am_lf_eq ?_
  generalize am_lf (am_mk kb1_enterValue 0 0 1) [5, 10, 15] = kt at i10 ⊢
  refine am_ci (c := am_fit .char (.inl v1) = true) hp.1 ?_
  refine am_sp (w' := (kw_C (qu1_quote c v1))) (kp_C_0_quote c v1) ?_
  have e : fn1_enterValue_c5 c v1 v2 = fn1_enterValue_c10 (qu1_quote c v1) v2 := by
    rw [fn1_enterValue_c5]
  rw [e]
  exact i10 (qu1_quote c v1) v2 _ rfl hp.2
noncomputable def fn1_enterValue (c : qt1) (p0 : Int32) (p1 : Int32) : qt1 := Classical.choose (⟨_, rfl⟩ : ∃ z : qt1, z = (fn1_enterValue_c5 (qu1_name c (2 : Int32)) p0 p1))
theorem fq1_enterValue (c : qt1) (p0 : Int32) (p1 : Int32) : fn1_enterValue c p0 p1 = (fn1_enterValue_c5 (qu1_name c (2 : Int32)) p0 p1) := Classical.choose_spec (⟨_, rfl⟩ : ∃ z : qt1, z = (fn1_enterValue_c5 (qu1_name c (2 : Int32)) p0 p1))
def wp1_enterValue (c : qt1) (p0 : Int32) (p1 : Int32) : Prop := (wp1_enterValue_c5 (qu1_name c (2 : Int32)) p0 p1)
set_option maxRecDepth 100000 in
set_option maxHeartbeats 4000000 in
theorem re1_enterValue (c : qt1) (p0 : Int32) (p1 : Int32) (hp : wp1_enterValue c p0 p1) : am_lf (am_mk kb1_enterValue 0 0 1) [5, 10, 15] (0, am_L0 [.inr (.inl 0), .inl p0, .inl p1] 3, [], (kw_C c), 0, 0) = some (none, (kw_C (fn1_enterValue c p0 p1))) := by
  unfold wp1_enterValue at hp
  have i5 := @rc1_enterValue_5
  refine am_lf_eq ?_
  generalize am_lf (am_mk kb1_enterValue 0 0 1) [5, 10, 15] = kt at i5 ⊢
  refine am_sp (w' := (kw_C (qu1_name c (2 : Int32)))) (kp_C_0_name c (2 : Int32)) ?_
  have e : fn1_enterValue c p0 p1 = fn1_enterValue_c5 (qu1_name c (2 : Int32)) p0 p1 := by
    rw [fq1_enterValue]
  rw [e]
  exact i5 (qu1_name c (2 : Int32)) p0 p1  hp
abbrev pr1_enterValue : List am_V → List am_C → Prop := fun a w => ∃ (c : qt1) (p0 : Int32) (p1 : Int32), a = [.inr (.inl 0), .inl p0, .inl p1] ∧ w = (kw_C c) ∧ wp1_enterValue c p0 p1
noncomputable def fm1_enterValue : am_M := fun a w => (fun (z : qt1) => (none, (kw_C z), 0, 0)) (fn1_enterValue (qs1 w 0) (am_i (am_an a 1)) (am_i (am_an a 2)))
theorem fe1_enterValue (c : qt1) (p0 : Int32) (p1 : Int32) : fm1_enterValue [.inr (.inl 0), .inl p0, .inl p1] (kw_C c) = (none, (kw_C (fn1_enterValue c p0 p1)), 0, 0) := rfl
set_option maxRecDepth 100000 in
set_option maxHeartbeats 4000000 in
theorem rn1_enterValue : ∀ (a : List am_V) (w : List am_C), pr1_enterValue a w → ∃ nq, am_ev (am_mk kb1_enterValue (fm1_enterValue a w).2.2.1 (fm1_enterValue a w).2.2.2 w.length) [5, 10, 15] nq (0, am_L0 a 3, [], w, 0, 0) = some ((fm1_enterValue a w).1, (fm1_enterValue a w).2.1) := by
  rintro a w ⟨c, p0, p1, rfl, rfl, hp⟩
  rw [fe1_enterValue c p0 p1]
  exact am_lf_ev (re1_enterValue c p0 p1 hp)
theorem rl1_enterValue : ∀ (a : List am_V) (w : List am_C), pr1_enterValue a w → a.length ≤ 3 := by
  rintro a w ⟨c, p0, p1, rfl, rfl, hp⟩
  exact Nat.le_of_ble_eq_true rfl
theorem pa1_enterValue : ∀ a w, pr1_enterValue a w → ∃ q a' ci fs r, a = .inr (.inl q) :: a' ∧ w[q]? = some (.inr (ci, fs)) ∧ hn_cl[ci]? = some r ∧ r.1 = hn_R1 := by
  rintro a w ⟨c, p0, p1, rfl, rfl, hp⟩
  exact ⟨0, _, 1, _, _, rfl, rfl, rfl, rfl⟩
set_option maxRecDepth 100000 in
set_option maxHeartbeats 4000000 in
theorem km1_enterValue {l : Launch} {E : (Nat → Prop) → State → Prop} {D : va_G} {ou : Nat → Nat} {ca : Nat → ClassId} (hE : hg_E E ou) : hg_Met l E D ou ca hy1_enterValue prog_3_method_4_code 3 none 0 pr1_enterValue fm1_enterValue := by
  refine am_met (B := kb1_enterValue) (cuts := [5, 10, 15]) (nt := 5) (by decide +kernel) rfl rfl (hg_tys_ok ca) ?_ (by decide) rl1_enterValue ?_ rn1_enterValue
  · exact fun t ht => List.mem_cons_of_mem _ (hg_arr t ht)
  · intro a w hp ad p e R s m args below meth c hR X hEs hnm
    have hR1 : 0 ≤ R.frames ∧ 0 ≤ R.locals := by rw [hR]; exact ⟨Nat.le_refl _, Nat.le_refl _⟩
    have hN := hE.2.1 _ _ hEs
    refine ⟨kd1_enterValue_ok, fun index ci fi mode hq => kf1_ok X.2.2.2.2.1 hN.1 (index, ci, fi, mode) (am_as_mem hq), fun index ci fs hq => (am_no hq).elim, fun x v hq => (am_no hq).elim, ?_, fun o t n f hq => (am_no hq).elim, rfl, rfl, by rw [hR]; exact Nat.le_refl _, by rw [hR]; exact Nat.le_refl _⟩
    intro pc sel n0 pre0 f0 hq
    exact (am_no hq).elim
