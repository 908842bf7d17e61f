theorem kj2_ok {s : State} {args : Array Value} {meth : Method} {x : Cond} (hts : ∀ w ∈ x :: gw_all, w.before args s = true) (hN : hg_Nw s) (hnm : meth.name = "<init>") : ∀ q ∈ kf2i, am_FK s args meth hn_R2 (x :: gw_all) hn_cl hn_ty q.1 q.2.1 q.2.2.1 q.2.2.2 :=
  am_allc (hg_fkI hts hnm rfl (by decide) hn_in2 hn_ok2 hn_nm2 rfl 130 (by decide +kernel) ⟨rfl, rfl⟩) (am_allc (hg_fkI hts hnm rfl (by decide) hn_in2 hn_ok2 hn_nm2 rfl 131 (by decide +kernel) ⟨rfl, rfl⟩) (am_allc (hg_fkI hts hnm rfl (by decide) hn_in2 hn_ok2 hn_nm2 rfl 132 (by decide +kernel) ⟨rfl, rfl⟩) (am_allc (hg_fkI hts hnm rfl (by decide) hn_in2 hn_ok2 hn_nm2 rfl 133 (by decide +kernel) ⟨rfl, rfl⟩) (am_allc (hg_fkN (host := "HoleTemplates") hN rfl (by decide) hn_in6 hn_ok6 hn_nm6 rfl (by decide) 2 rfl (by decide)) (am_all0)))))
noncomputable def ki2_init : List (Nat × Option (List Nat) × Nat × (List am_V → List am_C → Prop) × am_M) := [(1, none, 1, prO_obj, fmO_obj)]
noncomputable def kb2_init : am_B := (kd2_init, am_as kf2i, hn_ty, fun _ => none, fun _ => none, am_as ki2_init, fun _ => none, 5, 2, none)
def hi2_al : Nat → Int32 := upd (upd (upd (upd (upd (upd (upd (upd (fun _ => 0) 0 (-1)) 1 (-1)) 2 (-1)) 3 (-1)) 4 (-1)) 5 (-1)) 6 (-1)) 7 (-1)
def hi2_s0 : qt2 := (fun _ => 0, fun _ => 0, fun _ => 0, fun _ => 0)
def hi2_s1 : qt2 := (fun _ => 0, fun _ => 0, fun _ => 0, hi2_al)
noncomputable def fn2_init_c39 : Nat → qt2 → Int32 → qt2
  | 0, m, _ => m
  | fu + 1, m, v1 => (if (8 : Int32) ≤ v1 then m else (fn2_init_c39 fu (qa2_alone m ((v1).toNatClampNeg) (-1 : Int32)) (v1 + (1 : Int32))))
def wp2_init_c39 : Nat → qt2 → Int32 → Prop
  | 0, _, _ => False
  | fu + 1, m, v1 => (((8 : Int32) ≤ v1 → True) ∧ (¬ (8 : Int32) ≤ v1 → (am_inb v1 8 = true ∧ (wp2_init_c39 fu (qa2_alone m ((v1).toNatClampNeg) (-1 : Int32)) (v1 + (1 : Int32))))))
set_option maxRecDepth 100000 in
set_option maxHeartbeats 4000000 in
theorem rc2_init_39 : ∀ (fu : Nat) (m : qt2) (v1 : Int32), wp2_init_c39 fu m v1 → am_lf (am_mk kb2_init 4 1328 1) [39] (39, [some (.inr (.inl 0)), some (.inl v1)], [], (kw_I m), 4, 1328) = some (none, (kw_I (fn2_init_c39 fu m v1))) := by
  intro fu
  induction fu with
  | zero =>
    intro m v1 hp
    exact hp.elim
  | succ fu ih =>
    intro m v1 hp
    unfold wp2_init_c39 at hp
    refine am_lf_eq ?_
    generalize am_lf (am_mk kb2_init 4 1328 1) [39] = kt at ih ⊢
    refine am_if (c := (8 : Int32) ≤ v1) (fun h2 => ?_) (fun h2 => ?_)
    · have e : fn2_init_c39 (fu + 1) m v1 = m := by
        rw [fn2_init_c39]
        rw [if_pos h2]
      rw [e] <;> rfl
    · have q2 := hp.2 h2
      refine am_ci (c := am_inb v1 8 = true) q2.1 ?_
      refine am_sp (w' := (kw_I (qa2_alone m ((v1).toNatClampNeg) (-1 : Int32)))) (kp_I_0_alone m ((v1).toNatClampNeg) (-1 : Int32)) ?_
      have e : fn2_init_c39 (fu + 1) m v1 = fn2_init_c39 fu (qa2_alone m ((v1).toNatClampNeg) (-1 : Int32)) (v1 + (1 : Int32)) := by
        rw [fn2_init_c39]
        rw [if_neg h2]
      rw [e]
      exact ih (qa2_alone m ((v1).toNatClampNeg) (-1 : Int32)) (v1 + (1 : Int32)) q2.2
set_option maxRecDepth 100000 in
set_option maxHeartbeats 4000000 in
theorem wz2_init : wp2_init_c39 hg_fu hi2_s0 0 := by
  rw [hg_fu_eq]
  exact ⟨fun _ => trivial, fun _ => ⟨rfl, ⟨fun _ => trivial, fun _ => ⟨rfl, ⟨fun _ => trivial, fun _ => ⟨rfl, ⟨fun _ => trivial, fun _ => ⟨rfl, ⟨fun _ => trivial, fun _ => ⟨rfl, ⟨fun _ => trivial, fun _ => ⟨rfl, ⟨fun _ => trivial, fun _ => ⟨rfl, ⟨fun _ => trivial, fun _ => ⟨rfl, ⟨fun _ => trivial, fun h => absurd (by decide) h⟩⟩⟩⟩⟩⟩⟩⟩⟩⟩⟩⟩⟩⟩⟩⟩⟩
set_option maxRecDepth 100000 in
set_option maxHeartbeats 4000000 in
theorem fz2_init : fn2_init_c39 hg_fu hi2_s0 0 = hi2_s1 := by
  rw [hg_fu_eq]
  rfl
set_option maxRecDepth 100000 in
set_option maxHeartbeats 4000000 in
theorem re2_init : am_lf (am_mk kb2_init 4 1328 1) [39] (0, am_L0 [.inr (.inl 0)] 2, [], [.inr (2, [.inr (.inr 0), .inr (.inr 0), .inr (.inr 0), .inr (.inr 0)])], 0, 0) = some (none, (kw_I hi2_s1)) := by
  have i0 := rc2_init_39 hg_fu hi2_s0 0 wz2_init
  rw [fz2_init] at i0
  refine am_lf_eq ?_
  generalize am_lf (am_mk kb2_init 4 1328 1) [39] = kt at i0 ⊢
  refine am_cx (pre := prO_obj) (f := fmO_obj) (r := (none, [.inr (2, [.inr (.inr 0), .inr (.inr 0), .inr (.inr 0), .inr (.inr 0)])], 0, 0)) ?_ ?_ ?_ ?_
  · exact ⟨0, rfl⟩
  · rfl
  · rfl
  refine am_sp (w' := [.inr (2, [.inr (.inl 1), .inr (.inr 0), .inr (.inr 0), .inr (.inr 0)]), .inl (1, 1280, fun _ => 0)]) rfl ?_
  refine am_sp (w' := [.inr (2, [.inr (.inl 1), .inr (.inl 2), .inr (.inr 0), .inr (.inr 0)]), .inl (1, 1280, fun _ => 0), .inl (0, 32, fun _ => 0)]) rfl ?_
  refine am_sp (w' := [.inr (2, [.inr (.inl 1), .inr (.inl 2), .inr (.inl 3), .inr (.inr 0)]), .inl (1, 1280, fun _ => 0), .inl (0, 32, fun _ => 0), .inl (0, 8, fun _ => 0)]) rfl ?_
  refine am_sp (w' := [.inr (2, [.inr (.inl 1), .inr (.inl 2), .inr (.inl 3), .inr (.inl 4)]), .inl (1, 1280, fun _ => 0), .inl (0, 32, fun _ => 0), .inl (0, 8, fun _ => 0), .inl (0, 8, fun _ => 0)]) rfl ?_
  exact i0
abbrev pr2_init : List am_V → List am_C → Prop := fun a w => a = [.inr (.inl 0)] ∧ w = [.inr (2, [.inr (.inr 0), .inr (.inr 0), .inr (.inr 0), .inr (.inr 0)])]
def fm2_init : am_M := fun _ _ => (none, [.inr (2, [.inr (.inl 1), .inr (.inl 2), .inr (.inl 3), .inr (.inl 4)]), .inl (1, 1280, fun _ => 0), .inl (0, 32, fun _ => 0), .inl (0, 8, fun _ => 0), .inl (0, 8, hi2_al)], 4, 1328)
theorem fe2_init : fm2_init [.inr (.inl 0)] [.inr (2, [.inr (.inr 0), .inr (.inr 0), .inr (.inr 0), .inr (.inr 0)])] = (none, [.inr (2, [.inr (.inl 1), .inr (.inl 2), .inr (.inl 3), .inr (.inl 4)]), .inl (1, 1280, fun _ => 0), .inl (0, 32, fun _ => 0), .inl (0, 8, fun _ => 0), .inl (0, 8, hi2_al)], 4, 1328) := rfl
set_option maxRecDepth 100000 in
set_option maxHeartbeats 4000000 in
theorem rn2_init : ∀ (a : List am_V) (w : List am_C), pr2_init a w → ∃ nq, am_ev (am_mk kb2_init (fm2_init a w).2.2.1 (fm2_init a w).2.2.2 w.length) [39] nq (0, am_L0 a 2, [], w, 0, 0) = some ((fm2_init a w).1, (fm2_init a w).2.1) := by
  rintro a w ⟨rfl, rfl⟩
  exact am_lf_ev re2_init
theorem rl2_init : ∀ (a : List am_V) (w : List am_C), pr2_init a w → a.length ≤ 2 := by
  rintro a w ⟨rfl, rfl⟩
  exact Nat.le_of_ble_eq_true rfl
theorem pa2_init : ∀ a w, pr2_init a w → ∃ q a', a = .inr (.inl q) :: a' := by
  rintro a w ⟨rfl, rfl⟩
  exact ⟨0, _, rfl⟩
set_option maxRecDepth 100000 in
set_option maxHeartbeats 4000000 in
theorem km2_init {l : Launch} {E : (Nat → Prop) → State → Prop} {D : va_G} {ou : Nat → Nat} {ca : Nat → ClassId} (hE : hg_E E ou) : hg_Met l E D ou ca hy2_init prog_4_method_1_code 2 none 1 pr2_init fm2_init := by
  refine am_met (B := kb2_init) (cuts := [39]) (nt := 5) (by decide +kernel) rfl rfl (hg_tys_ok ca) ?_ (by decide) rl2_init ?_ rn2_init
  · exact fun t ht => List.mem_cons_of_mem _ (hg_arr t ht)
  · intro a w hp ad p e R s m args below meth c hR X hEs hnm
    have hR1 : 1 ≤ R.frames ∧ 40 ≤ R.locals := by rw [hR]; exact ⟨Nat.le_refl _, Nat.le_refl _⟩
    have hN := hE.2.1 _ _ hEs
    refine ⟨kd2_init_ok, fun index ci fi mode hq => kj2_ok X.2.2.2.2.1 hN.1 hnm (index, ci, fi, mode) (am_as_mem hq), fun index ci fs hq => (am_no hq).elim, fun x v hq => (am_no hq).elim, ?_, fun o t n f hq => (am_no hq).elim, rfl, rfl, by rw [hR]; exact Nat.le_refl _, by rw [hR]; exact Nat.le_refl _⟩
    intro pc sel n0 pre0 f0 hq
    have hz : ∀ q ∈ ki2_init, am_CK p l e R s m args below meth c D hn_cl (va_A (am_w ad ou ca w) s.heap.size) ou ca 2 q.1 q.2.2.1 q.2.2.2.1 q.2.2.2.2 := by
      refine am_allc (am_ck_O X (List.mem_cons_of_mem _ (gw_mem 129 (by decide +kernel))) (List.mem_cons_of_mem _ (gw_mem 98 (by decide +kernel))) (List.mem_cons_of_mem _ (gw_mem 99 (by decide +kernel))) hR1 (kd2_init_ok (1, .invokespecial 3, 3) (List.mem_of_getElem? (i := 1) rfl))) am_all0
    exact hz _ (am_as_mem hq)
noncomputable def ki10_init : List (Nat × Option (List Nat) × Nat × (List am_V → List am_C → Prop) × am_M) := [(1, none, 1, prO_obj, fmO_obj)]
noncomputable def kb10_init : am_B := (kd10_init, am_as kf10, hn_ty, fun _ => none, fun _ => none, am_as ki10_init, fun _ => none, 5, 2, none)
def hi10_al : Nat → Int32 := upd (upd (upd (upd (upd (upd (upd (upd (fun _ => 0) 0 (-1)) 1 (-1)) 2 (-1)) 3 (-1)) 4 (-1)) 5 (-1)) 6 (-1)) 7 (-1)
def hi10_s0 : hs := (0, 0, 0, 0, 0, (-1), 0, 0, 0, 0, 0, 0, 0, 0, 0, 0, fun _ => 0, fun _ => 0, fun _ => 0, fun _ => 0, fun _ => 0, fun _ => 0, fun _ => 0, fun _ => 0, fun _ => 0, fun _ => 0, fun _ => 0, fun _ => 0, fun _ => 0, fun _ => 0, fun _ => 0, fun _ => 0, fun _ => 0, fun _ => 0, fun _ => 0, fun _ => 0, fun _ => 0)
def hi10_s1 : hs := (0, 0, 0, 0, 0, (-1), 0, 0, 0, 0, 0, 0, 0, 0, 0, 0, fun _ => 0, fun _ => 0, fun _ => 0, fun _ => 0, fun _ => 0, fun _ => 0, fun _ => 0, fun _ => 0, fun _ => 0, fun _ => 0, fun _ => 0, fun _ => 0, fun _ => 0, fun _ => 0, fun _ => 0, fun _ => 0, fun _ => 0, hi10_al, fun _ => 0, fun _ => 0, fun _ => 0)
noncomputable def fn10_init_c189 : Nat → hs → Int32 → hs
  | 0, s, _ => s
  | fu + 1, s, v1 => (if (8 : Int32) ≤ v1 then s else (fn10_init_c189 fu (ha_alone s ((v1).toNatClampNeg) (-1 : Int32)) (v1 + (1 : Int32))))
def wp10_init_c189 : Nat → hs → Int32 → Prop
  | 0, _, _ => False
  | fu + 1, s, v1 => (((8 : Int32) ≤ v1 → True) ∧ (¬ (8 : Int32) ≤ v1 → (am_inb v1 8 = true ∧ (wp10_init_c189 fu (ha_alone s ((v1).toNatClampNeg) (-1 : Int32)) (v1 + (1 : Int32))))))
set_option maxRecDepth 100000 in
set_option maxHeartbeats 4000000 in
theorem rc10_init_189 : ∀ (fu : Nat) (s : hs) (v1 : Int32), wp10_init_c189 fu s v1 → am_lf (am_mk kb10_init 21 4404 1) [189] (189, [some (.inr (.inl 0)), some (.inl v1)], [], (hm_w s), 21, 4404) = some (none, (hm_w (fn10_init_c189 fu s v1))) := by
  intro fu
  induction fu with
  | zero =>
    intro s v1 hp
    exact hp.elim
  | succ fu ih =>
    intro s v1 hp
    unfold wp10_init_c189 at hp
    refine am_lf_eq ?_
    generalize am_lf (am_mk kb10_init 21 4404 1) [189] = kt at ih ⊢
    refine am_if (c := (8 : Int32) ≤ v1) (fun h2 => ?_) (fun h2 => ?_)
    · have e : fn10_init_c189 (fu + 1) s v1 = s := by
        rw [fn10_init_c189]
        rw [if_pos h2]
      rw [e] <;> rfl
    · have q2 := hp.2 h2
      refine am_ci (c := am_inb v1 8 = true) q2.1 ?_
      refine am_sp (w' := (hm_w (ha_alone s ((v1).toNatClampNeg) (-1 : Int32)))) (kp_R_0_alone s ((v1).toNatClampNeg) (-1 : Int32)) ?_
      have e : fn10_init_c189 (fu + 1) s v1 = fn10_init_c189 fu (ha_alone s ((v1).toNatClampNeg) (-1 : Int32)) (v1 + (1 : Int32)) := by
        rw [fn10_init_c189]
        rw [if_neg h2]
      rw [e]
      exact ih (ha_alone s ((v1).toNatClampNeg) (-1 : Int32)) (v1 + (1 : Int32)) q2.2
set_option maxRecDepth 100000 in
set_option maxHeartbeats 4000000 in
theorem wz10_init : wp10_init_c189 hg_fu hi10_s0 0 := by
  rw [hg_fu_eq]
  exact ⟨fun _ => trivial, fun _ => ⟨rfl, ⟨fun _ => trivial, fun _ => ⟨rfl, ⟨fun _ => trivial, fun _ => ⟨rfl, ⟨fun _ => trivial, fun _ => ⟨rfl, ⟨fun _ => trivial, fun _ => ⟨rfl, ⟨fun _ => trivial, fun _ => ⟨rfl, ⟨fun _ => trivial, fun _ => ⟨rfl, ⟨fun _ => trivial, fun _ => ⟨rfl, ⟨fun _ => trivial, fun h => absurd (by decide) h⟩⟩⟩⟩⟩⟩⟩⟩⟩⟩⟩⟩⟩⟩⟩⟩⟩
set_option maxRecDepth 100000 in
set_option maxHeartbeats 4000000 in
theorem fz10_init : fn10_init_c189 hg_fu hi10_s0 0 = hi10_s1 := by
  rw [hg_fu_eq]
  rfl
set_option maxRecDepth 100000 in
set_option maxHeartbeats 4000000 in
theorem re10_init : am_lf (am_mk kb10_init 21 4404 1) [189] (0, am_L0 [.inr (.inl 0)] 2, [], [.inr (10, [.inl 0, .inl 0, .inr (.inr 0), .inl 0, .inr (.inr 0), .inl 0, .inr (.inr 0), .inr (.inr 0), .inr (.inr 0), .inr (.inr 0), .inr (.inr 0), .inr (.inr 0), .inr (.inr 0), .inl 0, .inl 0, .inl 0, .inr (.inr 0), .inl 0, .inl 0, .inl 0, .inl 0, .inl 0, .inl 0, .inr (.inr 0), .inr (.inr 0), .inr (.inr 0), .inr (.inr 0), .inr (.inr 0), .inr (.inr 0), .inr (.inr 0), .inr (.inr 0), .inl 0, .inr (.inr 0), .inr (.inr 0), .inl 0, .inr (.inr 0), .inl 0])], 0, 0) = some (none, (hm_w hi10_s1)) := by
  have i0 := rc10_init_189 hg_fu hi10_s0 0 wz10_init
  rw [fz10_init] at i0
  refine am_lf_eq ?_
  generalize am_lf (am_mk kb10_init 21 4404 1) [189] = kt at i0 ⊢
  refine am_cx (pre := prO_obj) (f := fmO_obj) (r := (none, [.inr (10, [.inl 0, .inl 0, .inr (.inr 0), .inl 0, .inr (.inr 0), .inl 0, .inr (.inr 0), .inr (.inr 0), .inr (.inr 0), .inr (.inr 0), .inr (.inr 0), .inr (.inr 0), .inr (.inr 0), .inl 0, .inl 0, .inl 0, .inr (.inr 0), .inl 0, .inl 0, .inl 0, .inl 0, .inl 0, .inl 0, .inr (.inr 0), .inr (.inr 0), .inr (.inr 0), .inr (.inr 0), .inr (.inr 0), .inr (.inr 0), .inr (.inr 0), .inr (.inr 0), .inl 0, .inr (.inr 0), .inr (.inr 0), .inl 0, .inr (.inr 0), .inl 0])], 0, 0)) ?_ ?_ ?_ ?_
  · exact ⟨0, rfl⟩
  · rfl
  · rfl
  refine am_sp (w' := [.inr (10, [.inl 0, .inl 0, .inr (.inl 1), .inl 0, .inr (.inr 0), .inl 0, .inr (.inr 0), .inr (.inr 0), .inr (.inr 0), .inr (.inr 0), .inr (.inr 0), .inr (.inr 0), .inr (.inr 0), .inl 0, .inl 0, .inl 0, .inr (.inr 0), .inl 0, .inl 0, .inl 0, .inl 0, .inl 0, .inl 0, .inr (.inr 0), .inr (.inr 0), .inr (.inr 0), .inr (.inr 0), .inr (.inr 0), .inr (.inr 0), .inr (.inr 0), .inr (.inr 0), .inl 0, .inr (.inr 0), .inr (.inr 0), .inl 0, .inr (.inr 0), .inl 0]), .inl (1, 40, fun _ => 0)]) rfl ?_
  refine am_sp (w' := [.inr (10, [.inl 0, .inl 0, .inr (.inl 1), .inl 0, .inr (.inl 2), .inl 0, .inr (.inr 0), .inr (.inr 0), .inr (.inr 0), .inr (.inr 0), .inr (.inr 0), .inr (.inr 0), .inr (.inr 0), .inl 0, .inl 0, .inl 0, .inr (.inr 0), .inl 0, .inl 0, .inl 0, .inl 0, .inl 0, .inl 0, .inr (.inr 0), .inr (.inr 0), .inr (.inr 0), .inr (.inr 0), .inr (.inr 0), .inr (.inr 0), .inr (.inr 0), .inr (.inr 0), .inl 0, .inr (.inr 0), .inr (.inr 0), .inl 0, .inr (.inr 0), .inl 0]), .inl (1, 40, fun _ => 0), .inl (1, 240, fun _ => 0)]) rfl ?_
  refine am_sp (w' := [.inr (10, [.inl 0, .inl 0, .inr (.inl 1), .inl 0, .inr (.inl 2), .inl 0, .inr (.inl 3), .inr (.inr 0), .inr (.inr 0), .inr (.inr 0), .inr (.inr 0), .inr (.inr 0), .inr (.inr 0), .inl 0, .inl 0, .inl 0, .inr (.inr 0), .inl 0, .inl 0, .inl 0, .inl 0, .inl 0, .inl 0, .inr (.inr 0), .inr (.inr 0), .inr (.inr 0), .inr (.inr 0), .inr (.inr 0), .inr (.inr 0), .inr (.inr 0), .inr (.inr 0), .inl 0, .inr (.inr 0), .inr (.inr 0), .inl 0, .inr (.inr 0), .inl 0]), .inl (1, 40, fun _ => 0), .inl (1, 240, fun _ => 0), .inl (0, 240, fun _ => 0)]) rfl ?_
  refine am_sp (w' := [.inr (10, [.inl 0, .inl 0, .inr (.inl 1), .inl 0, .inr (.inl 2), .inl 0, .inr (.inl 3), .inr (.inl 4), .inr (.inr 0), .inr (.inr 0), .inr (.inr 0), .inr (.inr 0), .inr (.inr 0), .inl 0, .inl 0, .inl 0, .inr (.inr 0), .inl 0, .inl 0, .inl 0, .inl 0, .inl 0, .inl 0, .inr (.inr 0), .inr (.inr 0), .inr (.inr 0), .inr (.inr 0), .inr (.inr 0), .inr (.inr 0), .inr (.inr 0), .inr (.inr 0), .inl 0, .inr (.inr 0), .inr (.inr 0), .inl 0, .inr (.inr 0), .inl 0]), .inl (1, 40, fun _ => 0), .inl (1, 240, fun _ => 0), .inl (0, 240, fun _ => 0), .inl (1, 240, fun _ => 0)]) rfl ?_
  refine am_sp (w' := [.inr (10, [.inl 0, .inl 0, .inr (.inl 1), .inl 0, .inr (.inl 2), .inl 0, .inr (.inl 3), .inr (.inl 4), .inr (.inl 5), .inr (.inr 0), .inr (.inr 0), .inr (.inr 0), .inr (.inr 0), .inl 0, .inl 0, .inl 0, .inr (.inr 0), .inl 0, .inl 0, .inl 0, .inl 0, .inl 0, .inl 0, .inr (.inr 0), .inr (.inr 0), .inr (.inr 0), .inr (.inr 0), .inr (.inr 0), .inr (.inr 0), .inr (.inr 0), .inr (.inr 0), .inl 0, .inr (.inr 0), .inr (.inr 0), .inl 0, .inr (.inr 0), .inl 0]), .inl (1, 40, fun _ => 0), .inl (1, 240, fun _ => 0), .inl (0, 240, fun _ => 0), .inl (1, 240, fun _ => 0), .inl (0, 240, fun _ => 0)]) rfl ?_
  refine am_sp (w' := [.inr (10, [.inl 0, .inl 0, .inr (.inl 1), .inl 0, .inr (.inl 2), .inl 0, .inr (.inl 3), .inr (.inl 4), .inr (.inl 5), .inr (.inl 6), .inr (.inr 0), .inr (.inr 0), .inr (.inr 0), .inl 0, .inl 0, .inl 0, .inr (.inr 0), .inl 0, .inl 0, .inl 0, .inl 0, .inl 0, .inl 0, .inr (.inr 0), .inr (.inr 0), .inr (.inr 0), .inr (.inr 0), .inr (.inr 0), .inr (.inr 0), .inr (.inr 0), .inr (.inr 0), .inl 0, .inr (.inr 0), .inr (.inr 0), .inl 0, .inr (.inr 0), .inl 0]), .inl (1, 40, fun _ => 0), .inl (1, 240, fun _ => 0), .inl (0, 240, fun _ => 0), .inl (1, 240, fun _ => 0), .inl (0, 240, fun _ => 0), .inl (0, 240, fun _ => 0)]) rfl ?_
  refine am_sp (w' := [.inr (10, [.inl 0, .inl 0, .inr (.inl 1), .inl 0, .inr (.inl 2), .inl 0, .inr (.inl 3), .inr (.inl 4), .inr (.inl 5), .inr (.inl 6), .inr (.inl 7), .inr (.inr 0), .inr (.inr 0), .inl 0, .inl 0, .inl 0, .inr (.inr 0), .inl 0, .inl 0, .inl 0, .inl 0, .inl 0, .inl 0, .inr (.inr 0), .inr (.inr 0), .inr (.inr 0), .inr (.inr 0), .inr (.inr 0), .inr (.inr 0), .inr (.inr 0), .inr (.inr 0), .inl 0, .inr (.inr 0), .inr (.inr 0), .inl 0, .inr (.inr 0), .inl 0]), .inl (1, 40, fun _ => 0), .inl (1, 240, fun _ => 0), .inl (0, 240, fun _ => 0), .inl (1, 240, fun _ => 0), .inl (0, 240, fun _ => 0), .inl (0, 240, fun _ => 0), .inl (0, 240, fun _ => 0)]) rfl ?_
  refine am_sp (w' := [.inr (10, [.inl 0, .inl 0, .inr (.inl 1), .inl 0, .inr (.inl 2), .inl 0, .inr (.inl 3), .inr (.inl 4), .inr (.inl 5), .inr (.inl 6), .inr (.inl 7), .inr (.inl 8), .inr (.inr 0), .inl 0, .inl 0, .inl 0, .inr (.inr 0), .inl 0, .inl 0, .inl 0, .inl 0, .inl 0, .inl 0, .inr (.inr 0), .inr (.inr 0), .inr (.inr 0), .inr (.inr 0), .inr (.inr 0), .inr (.inr 0), .inr (.inr 0), .inr (.inr 0), .inl 0, .inr (.inr 0), .inr (.inr 0), .inl 0, .inr (.inr 0), .inl 0]), .inl (1, 40, fun _ => 0), .inl (1, 240, fun _ => 0), .inl (0, 240, fun _ => 0), .inl (1, 240, fun _ => 0), .inl (0, 240, fun _ => 0), .inl (0, 240, fun _ => 0), .inl (0, 240, fun _ => 0), .inl (0, 240, fun _ => 0)]) rfl ?_
  refine am_sp (w' := [.inr (10, [.inl 0, .inl 0, .inr (.inl 1), .inl 0, .inr (.inl 2), .inl 0, .inr (.inl 3), .inr (.inl 4), .inr (.inl 5), .inr (.inl 6), .inr (.inl 7), .inr (.inl 8), .inr (.inl 9), .inl 0, .inl 0, .inl 0, .inr (.inr 0), .inl 0, .inl 0, .inl 0, .inl 0, .inl 0, .inl 0, .inr (.inr 0), .inr (.inr 0), .inr (.inr 0), .inr (.inr 0), .inr (.inr 0), .inr (.inr 0), .inr (.inr 0), .inr (.inr 0), .inl 0, .inr (.inr 0), .inr (.inr 0), .inl 0, .inr (.inr 0), .inl 0]), .inl (1, 40, fun _ => 0), .inl (1, 240, fun _ => 0), .inl (0, 240, fun _ => 0), .inl (1, 240, fun _ => 0), .inl (0, 240, fun _ => 0), .inl (0, 240, fun _ => 0), .inl (0, 240, fun _ => 0), .inl (0, 240, fun _ => 0), .inl (0, 240, fun _ => 0)]) rfl ?_
  refine am_sp (w' := [.inr (10, [.inl 0, .inl 0, .inr (.inl 1), .inl 0, .inr (.inl 2), .inl 0, .inr (.inl 3), .inr (.inl 4), .inr (.inl 5), .inr (.inl 6), .inr (.inl 7), .inr (.inl 8), .inr (.inl 9), .inl 0, .inl (-1), .inl 0, .inr (.inr 0), .inl 0, .inl 0, .inl 0, .inl 0, .inl 0, .inl 0, .inr (.inr 0), .inr (.inr 0), .inr (.inr 0), .inr (.inr 0), .inr (.inr 0), .inr (.inr 0), .inr (.inr 0), .inr (.inr 0), .inl 0, .inr (.inr 0), .inr (.inr 0), .inl 0, .inr (.inr 0), .inl 0]), .inl (1, 40, fun _ => 0), .inl (1, 240, fun _ => 0), .inl (0, 240, fun _ => 0), .inl (1, 240, fun _ => 0), .inl (0, 240, fun _ => 0), .inl (0, 240, fun _ => 0), .inl (0, 240, fun _ => 0), .inl (0, 240, fun _ => 0), .inl (0, 240, fun _ => 0)]) rfl ?_
  refine am_sp (w' := [.inr (10, [.inl 0, .inl 0, .inr (.inl 1), .inl 0, .inr (.inl 2), .inl 0, .inr (.inl 3), .inr (.inl 4), .inr (.inl 5), .inr (.inl 6), .inr (.inl 7), .inr (.inl 8), .inr (.inl 9), .inl 0, .inl (-1), .inl 0, .inr (.inl 10), .inl 0, .inl 0, .inl 0, .inl 0, .inl 0, .inl 0, .inr (.inr 0), .inr (.inr 0), .inr (.inr 0), .inr (.inr 0), .inr (.inr 0), .inr (.inr 0), .inr (.inr 0), .inr (.inr 0), .inl 0, .inr (.inr 0), .inr (.inr 0), .inl 0, .inr (.inr 0), .inl 0]), .inl (1, 40, fun _ => 0), .inl (1, 240, fun _ => 0), .inl (0, 240, fun _ => 0), .inl (1, 240, fun _ => 0), .inl (0, 240, fun _ => 0), .inl (0, 240, fun _ => 0), .inl (0, 240, fun _ => 0), .inl (0, 240, fun _ => 0), .inl (0, 240, fun _ => 0), .inl (0, 80, fun _ => 0)]) rfl ?_
  refine am_sp (w' := [.inr (10, [.inl 0, .inl 0, .inr (.inl 1), .inl 0, .inr (.inl 2), .inl 0, .inr (.inl 3), .inr (.inl 4), .inr (.inl 5), .inr (.inl 6), .inr (.inl 7), .inr (.inl 8), .inr (.inl 9), .inl 0, .inl (-1), .inl 0, .inr (.inl 10), .inl 0, .inl 0, .inl 0, .inl 0, .inl 0, .inl 0, .inr (.inl 11), .inr (.inr 0), .inr (.inr 0), .inr (.inr 0), .inr (.inr 0), .inr (.inr 0), .inr (.inr 0), .inr (.inr 0), .inl 0, .inr (.inr 0), .inr (.inr 0), .inl 0, .inr (.inr 0), .inl 0]), .inl (1, 40, fun _ => 0), .inl (1, 240, fun _ => 0), .inl (0, 240, fun _ => 0), .inl (1, 240, fun _ => 0), .inl (0, 240, fun _ => 0), .inl (0, 240, fun _ => 0), .inl (0, 240, fun _ => 0), .inl (0, 240, fun _ => 0), .inl (0, 240, fun _ => 0), .inl (0, 80, fun _ => 0), .inl (0, 6, fun _ => 0)]) rfl ?_
  refine am_sp (w' := [.inr (10, [.inl 0, .inl 0, .inr (.inl 1), .inl 0, .inr (.inl 2), .inl 0, .inr (.inl 3), .inr (.inl 4), .inr (.inl 5), .inr (.inl 6), .inr (.inl 7), .inr (.inl 8), .inr (.inl 9), .inl 0, .inl (-1), .inl 0, .inr (.inl 10), .inl 0, .inl 0, .inl 0, .inl 0, .inl 0, .inl 0, .inr (.inl 11), .inr (.inl 12), .inr (.inr 0), .inr (.inr 0), .inr (.inr 0), .inr (.inr 0), .inr (.inr 0), .inr (.inr 0), .inl 0, .inr (.inr 0), .inr (.inr 0), .inl 0, .inr (.inr 0), .inl 0]), .inl (1, 40, fun _ => 0), .inl (1, 240, fun _ => 0), .inl (0, 240, fun _ => 0), .inl (1, 240, fun _ => 0), .inl (0, 240, fun _ => 0), .inl (0, 240, fun _ => 0), .inl (0, 240, fun _ => 0), .inl (0, 240, fun _ => 0), .inl (0, 240, fun _ => 0), .inl (0, 80, fun _ => 0), .inl (0, 6, fun _ => 0), .inl (0, 6, fun _ => 0)]) rfl ?_
  refine am_sp (w' := [.inr (10, [.inl 0, .inl 0, .inr (.inl 1), .inl 0, .inr (.inl 2), .inl 0, .inr (.inl 3), .inr (.inl 4), .inr (.inl 5), .inr (.inl 6), .inr (.inl 7), .inr (.inl 8), .inr (.inl 9), .inl 0, .inl (-1), .inl 0, .inr (.inl 10), .inl 0, .inl 0, .inl 0, .inl 0, .inl 0, .inl 0, .inr (.inl 11), .inr (.inl 12), .inr (.inl 13), .inr (.inr 0), .inr (.inr 0), .inr (.inr 0), .inr (.inr 0), .inr (.inr 0), .inl 0, .inr (.inr 0), .inr (.inr 0), .inl 0, .inr (.inr 0), .inl 0]), .inl (1, 40, fun _ => 0), .inl (1, 240, fun _ => 0), .inl (0, 240, fun _ => 0), .inl (1, 240, fun _ => 0), .inl (0, 240, fun _ => 0), .inl (0, 240, fun _ => 0), .inl (0, 240, fun _ => 0), .inl (0, 240, fun _ => 0), .inl (0, 240, fun _ => 0), .inl (0, 80, fun _ => 0), .inl (0, 6, fun _ => 0), .inl (0, 6, fun _ => 0), .inl (0, 6, fun _ => 0)]) rfl ?_
  refine am_sp (w' := [.inr (10, [.inl 0, .inl 0, .inr (.inl 1), .inl 0, .inr (.inl 2), .inl 0, .inr (.inl 3), .inr (.inl 4), .inr (.inl 5), .inr (.inl 6), .inr (.inl 7), .inr (.inl 8), .inr (.inl 9), .inl 0, .inl (-1), .inl 0, .inr (.inl 10), .inl 0, .inl 0, .inl 0, .inl 0, .inl 0, .inl 0, .inr (.inl 11), .inr (.inl 12), .inr (.inl 13), .inr (.inl 14), .inr (.inr 0), .inr (.inr 0), .inr (.inr 0), .inr (.inr 0), .inl 0, .inr (.inr 0), .inr (.inr 0), .inl 0, .inr (.inr 0), .inl 0]), .inl (1, 40, fun _ => 0), .inl (1, 240, fun _ => 0), .inl (0, 240, fun _ => 0), .inl (1, 240, fun _ => 0), .inl (0, 240, fun _ => 0), .inl (0, 240, fun _ => 0), .inl (0, 240, fun _ => 0), .inl (0, 240, fun _ => 0), .inl (0, 240, fun _ => 0), .inl (0, 80, fun _ => 0), .inl (0, 6, fun _ => 0), .inl (0, 6, fun _ => 0), .inl (0, 6, fun _ => 0), .inl (2, 6, fun _ => 0)]) rfl ?_
  refine am_sp (w' := [.inr (10, [.inl 0, .inl 0, .inr (.inl 1), .inl 0, .inr (.inl 2), .inl 0, .inr (.inl 3), .inr (.inl 4), .inr (.inl 5), .inr (.inl 6), .inr (.inl 7), .inr (.inl 8), .inr (.inl 9), .inl 0, .inl (-1), .inl 0, .inr (.inl 10), .inl 0, .inl 0, .inl 0, .inl 0, .inl 0, .inl 0, .inr (.inl 11), .inr (.inl 12), .inr (.inl 13), .inr (.inl 14), .inr (.inl 15), .inr (.inr 0), .inr (.inr 0), .inr (.inr 0), .inl 0, .inr (.inr 0), .inr (.inr 0), .inl 0, .inr (.inr 0), .inl 0]), .inl (1, 40, fun _ => 0), .inl (1, 240, fun _ => 0), .inl (0, 240, fun _ => 0), .inl (1, 240, fun _ => 0), .inl (0, 240, fun _ => 0), .inl (0, 240, fun _ => 0), .inl (0, 240, fun _ => 0), .inl (0, 240, fun _ => 0), .inl (0, 240, fun _ => 0), .inl (0, 80, fun _ => 0), .inl (0, 6, fun _ => 0), .inl (0, 6, fun _ => 0), .inl (0, 6, fun _ => 0), .inl (2, 6, fun _ => 0), .inl (0, 8, fun _ => 0)]) rfl ?_
  refine am_sp (w' := [.inr (10, [.inl 0, .inl 0, .inr (.inl 1), .inl 0, .inr (.inl 2), .inl 0, .inr (.inl 3), .inr (.inl 4), .inr (.inl 5), .inr (.inl 6), .inr (.inl 7), .inr (.inl 8), .inr (.inl 9), .inl 0, .inl (-1), .inl 0, .inr (.inl 10), .inl 0, .inl 0, .inl 0, .inl 0, .inl 0, .inl 0, .inr (.inl 11), .inr (.inl 12), .inr (.inl 13), .inr (.inl 14), .inr (.inl 15), .inr (.inl 16), .inr (.inr 0), .inr (.inr 0), .inl 0, .inr (.inr 0), .inr (.inr 0), .inl 0, .inr (.inr 0), .inl 0]), .inl (1, 40, fun _ => 0), .inl (1, 240, fun _ => 0), .inl (0, 240, fun _ => 0), .inl (1, 240, fun _ => 0), .inl (0, 240, fun _ => 0), .inl (0, 240, fun _ => 0), .inl (0, 240, fun _ => 0), .inl (0, 240, fun _ => 0), .inl (0, 240, fun _ => 0), .inl (0, 80, fun _ => 0), .inl (0, 6, fun _ => 0), .inl (0, 6, fun _ => 0), .inl (0, 6, fun _ => 0), .inl (2, 6, fun _ => 0), .inl (0, 8, fun _ => 0), .inl (0, 32, fun _ => 0)]) rfl ?_
  refine am_sp (w' := [.inr (10, [.inl 0, .inl 0, .inr (.inl 1), .inl 0, .inr (.inl 2), .inl 0, .inr (.inl 3), .inr (.inl 4), .inr (.inl 5), .inr (.inl 6), .inr (.inl 7), .inr (.inl 8), .inr (.inl 9), .inl 0, .inl (-1), .inl 0, .inr (.inl 10), .inl 0, .inl 0, .inl 0, .inl 0, .inl 0, .inl 0, .inr (.inl 11), .inr (.inl 12), .inr (.inl 13), .inr (.inl 14), .inr (.inl 15), .inr (.inl 16), .inr (.inl 17), .inr (.inr 0), .inl 0, .inr (.inr 0), .inr (.inr 0), .inl 0, .inr (.inr 0), .inl 0]), .inl (1, 40, fun _ => 0), .inl (1, 240, fun _ => 0), .inl (0, 240, fun _ => 0), .inl (1, 240, fun _ => 0), .inl (0, 240, fun _ => 0), .inl (0, 240, fun _ => 0), .inl (0, 240, fun _ => 0), .inl (0, 240, fun _ => 0), .inl (0, 240, fun _ => 0), .inl (0, 80, fun _ => 0), .inl (0, 6, fun _ => 0), .inl (0, 6, fun _ => 0), .inl (0, 6, fun _ => 0), .inl (2, 6, fun _ => 0), .inl (0, 8, fun _ => 0), .inl (0, 32, fun _ => 0), .inl (1, 1280, fun _ => 0)]) rfl ?_
  refine am_sp (w' := [.inr (10, [.inl 0, .inl 0, .inr (.inl 1), .inl 0, .inr (.inl 2), .inl 0, .inr (.inl 3), .inr (.inl 4), .inr (.inl 5), .inr (.inl 6), .inr (.inl 7), .inr (.inl 8), .inr (.inl 9), .inl 0, .inl (-1), .inl 0, .inr (.inl 10), .inl 0, .inl 0, .inl 0, .inl 0, .inl 0, .inl 0, .inr (.inl 11), .inr (.inl 12), .inr (.inl 13), .inr (.inl 14), .inr (.inl 15), .inr (.inl 16), .inr (.inl 17), .inr (.inl 18), .inl 0, .inr (.inr 0), .inr (.inr 0), .inl 0, .inr (.inr 0), .inl 0]), .inl (1, 40, fun _ => 0), .inl (1, 240, fun _ => 0), .inl (0, 240, fun _ => 0), .inl (1, 240, fun _ => 0), .inl (0, 240, fun _ => 0), .inl (0, 240, fun _ => 0), .inl (0, 240, fun _ => 0), .inl (0, 240, fun _ => 0), .inl (0, 240, fun _ => 0), .inl (0, 80, fun _ => 0), .inl (0, 6, fun _ => 0), .inl (0, 6, fun _ => 0), .inl (0, 6, fun _ => 0), .inl (2, 6, fun _ => 0), .inl (0, 8, fun _ => 0), .inl (0, 32, fun _ => 0), .inl (1, 1280, fun _ => 0), .inl (0, 8, fun _ => 0)]) rfl ?_
  refine am_sp (w' := [.inr (10, [.inl 0, .inl 0, .inr (.inl 1), .inl 0, .inr (.inl 2), .inl 0, .inr (.inl 3), .inr (.inl 4), .inr (.inl 5), .inr (.inl 6), .inr (.inl 7), .inr (.inl 8), .inr (.inl 9), .inl 0, .inl (-1), .inl 0, .inr (.inl 10), .inl 0, .inl 0, .inl 0, .inl 0, .inl 0, .inl 0, .inr (.inl 11), .inr (.inl 12), .inr (.inl 13), .inr (.inl 14), .inr (.inl 15), .inr (.inl 16), .inr (.inl 17), .inr (.inl 18), .inl 0, .inr (.inl 19), .inr (.inr 0), .inl 0, .inr (.inr 0), .inl 0]), .inl (1, 40, fun _ => 0), .inl (1, 240, fun _ => 0), .inl (0, 240, fun _ => 0), .inl (1, 240, fun _ => 0), .inl (0, 240, fun _ => 0), .inl (0, 240, fun _ => 0), .inl (0, 240, fun _ => 0), .inl (0, 240, fun _ => 0), .inl (0, 240, fun _ => 0), .inl (0, 80, fun _ => 0), .inl (0, 6, fun _ => 0), .inl (0, 6, fun _ => 0), .inl (0, 6, fun _ => 0), .inl (2, 6, fun _ => 0), .inl (0, 8, fun _ => 0), .inl (0, 32, fun _ => 0), .inl (1, 1280, fun _ => 0), .inl (0, 8, fun _ => 0), .inl (0, 6, fun _ => 0)]) rfl ?_
  refine am_sp (w' := [.inr (10, [.inl 0, .inl 0, .inr (.inl 1), .inl 0, .inr (.inl 2), .inl 0, .inr (.inl 3), .inr (.inl 4), .inr (.inl 5), .inr (.inl 6), .inr (.inl 7), .inr (.inl 8), .inr (.inl 9), .inl 0, .inl (-1), .inl 0, .inr (.inl 10), .inl 0, .inl 0, .inl 0, .inl 0, .inl 0, .inl 0, .inr (.inl 11), .inr (.inl 12), .inr (.inl 13), .inr (.inl 14), .inr (.inl 15), .inr (.inl 16), .inr (.inl 17), .inr (.inl 18), .inl 0, .inr (.inl 19), .inr (.inl 20), .inl 0, .inr (.inr 0), .inl 0]), .inl (1, 40, fun _ => 0), .inl (1, 240, fun _ => 0), .inl (0, 240, fun _ => 0), .inl (1, 240, fun _ => 0), .inl (0, 240, fun _ => 0), .inl (0, 240, fun _ => 0), .inl (0, 240, fun _ => 0), .inl (0, 240, fun _ => 0), .inl (0, 240, fun _ => 0), .inl (0, 80, fun _ => 0), .inl (0, 6, fun _ => 0), .inl (0, 6, fun _ => 0), .inl (0, 6, fun _ => 0), .inl (2, 6, fun _ => 0), .inl (0, 8, fun _ => 0), .inl (0, 32, fun _ => 0), .inl (1, 1280, fun _ => 0), .inl (0, 8, fun _ => 0), .inl (0, 6, fun _ => 0), .inl (0, 6, fun _ => 0)]) rfl ?_
  refine am_sp (w' := [.inr (10, [.inl 0, .inl 0, .inr (.inl 1), .inl 0, .inr (.inl 2), .inl 0, .inr (.inl 3), .inr (.inl 4), .inr (.inl 5), .inr (.inl 6), .inr (.inl 7), .inr (.inl 8), .inr (.inl 9), .inl 0, .inl (-1), .inl 0, .inr (.inl 10), .inl 0, .inl 0, .inl 0, .inl 0, .inl 0, .inl 0, .inr (.inl 11), .inr (.inl 12), .inr (.inl 13), .inr (.inl 14), .inr (.inl 15), .inr (.inl 16), .inr (.inl 17), .inr (.inl 18), .inl 0, .inr (.inl 19), .inr (.inl 20), .inl 0, .inr (.inl 21), .inl 0]), .inl (1, 40, fun _ => 0), .inl (1, 240, fun _ => 0), .inl (0, 240, fun _ => 0), .inl (1, 240, fun _ => 0), .inl (0, 240, fun _ => 0), .inl (0, 240, fun _ => 0), .inl (0, 240, fun _ => 0), .inl (0, 240, fun _ => 0), .inl (0, 240, fun _ => 0), .inl (0, 80, fun _ => 0), .inl (0, 6, fun _ => 0), .inl (0, 6, fun _ => 0), .inl (0, 6, fun _ => 0), .inl (2, 6, fun _ => 0), .inl (0, 8, fun _ => 0), .inl (0, 32, fun _ => 0), .inl (1, 1280, fun _ => 0), .inl (0, 8, fun _ => 0), .inl (0, 6, fun _ => 0), .inl (0, 6, fun _ => 0), .inl (1, 1000, fun _ => 0)]) rfl ?_
  exact i0
abbrev pr10_init : List am_V → List am_C → Prop := fun a w => a = [.inr (.inl 0)] ∧ w = [.inr (10, [.inl 0, .inl 0, .inr (.inr 0), .inl 0, .inr (.inr 0), .inl 0, .inr (.inr 0), .inr (.inr 0), .inr (.inr 0), .inr (.inr 0), .inr (.inr 0), .inr (.inr 0), .inr (.inr 0), .inl 0, .inl 0, .inl 0, .inr (.inr 0), .inl 0, .inl 0, .inl 0, .inl 0, .inl 0, .inl 0, .inr (.inr 0), .inr (.inr 0), .inr (.inr 0), .inr (.inr 0), .inr (.inr 0), .inr (.inr 0), .inr (.inr 0), .inr (.inr 0), .inl 0, .inr (.inr 0), .inr (.inr 0), .inl 0, .inr (.inr 0), .inl 0])]
def fm10_init : am_M := fun _ _ => (none, (hm_w hi10_s1), 21, 4404)
theorem fe10_init : fm10_init [.inr (.inl 0)] [.inr (10, [.inl 0, .inl 0, .inr (.inr 0), .inl 0, .inr (.inr 0), .inl 0, .inr (.inr 0), .inr (.inr 0), .inr (.inr 0), .inr (.inr 0), .inr (.inr 0), .inr (.inr 0), .inr (.inr 0), .inl 0, .inl 0, .inl 0, .inr (.inr 0), .inl 0, .inl 0, .inl 0, .inl 0, .inl 0, .inl 0, .inr (.inr 0), .inr (.inr 0), .inr (.inr 0), .inr (.inr 0), .inr (.inr 0), .inr (.inr 0), .inr (.inr 0), .inr (.inr 0), .inl 0, .inr (.inr 0), .inr (.inr 0), .inl 0, .inr (.inr 0), .inl 0])] = (none, (hm_w hi10_s1), 21, 4404) := rfl
set_option maxRecDepth 100000 in
set_option maxHeartbeats 4000000 in
theorem rn10_init : ∀ (a : List am_V) (w : List am_C), pr10_init a w → ∃ nq, am_ev (am_mk kb10_init (fm10_init a w).2.2.1 (fm10_init a w).2.2.2 w.length) [189] nq (0, am_L0 a 2, [], w, 0, 0) = some ((fm10_init a w).1, (fm10_init a w).2.1) := by
  rintro a w ⟨rfl, rfl⟩
  exact am_lf_ev re10_init
theorem rl10_init : ∀ (a : List am_V) (w : List am_C), pr10_init a w → a.length ≤ 2 := by
  rintro a w ⟨rfl, rfl⟩
  exact Nat.le_of_ble_eq_true rfl
theorem pa10_init : ∀ a w, pr10_init a w → ∃ q a', a = .inr (.inl q) :: a' := by
  rintro a w ⟨rfl, rfl⟩
  exact ⟨0, _, rfl⟩
set_option maxRecDepth 100000 in
set_option maxHeartbeats 4000000 in
theorem km10_init {l : Launch} {E : (Nat → Prop) → State → Prop} {D : va_G} {ou : Nat → Nat} {ca : Nat → ClassId} (hE : am_EC E) : hg_Met l E D ou ca hy10_init prog_12_method_1_code 2 none 1 pr10_init fm10_init := by
  refine am_met (B := kb10_init) (cuts := [189]) (nt := 5) (by decide +kernel) rfl rfl (hg_tys_ok ca) ?_ (by decide) rl10_init ?_ rn10_init
  · exact fun t ht => List.mem_cons_of_mem _ (hg_arr t ht)
  · intro a w hp ad p e R s m args below meth c hR X hEs hnm
    have hR1 : 1 ≤ R.frames ∧ 40 ≤ R.locals := by rw [hR]; exact ⟨Nat.le_refl _, Nat.le_refl _⟩
    refine ⟨kd10_init_ok, fun index ci fi mode hq => kf10_ok X.2.2.2.2.1 (index, ci, fi, mode) (am_as_mem hq), fun index ci fs hq => (am_no hq).elim, fun x v hq => (am_no hq).elim, ?_, fun o t n f hq => (am_no hq).elim, rfl, rfl, by rw [hR]; exact Nat.le_refl _, by rw [hR]; exact Nat.le_refl _⟩
    intro pc sel n0 pre0 f0 hq
    have hz : ∀ q ∈ ki10_init, am_CK p l e R s m args below meth c D hn_cl (va_A (am_w ad ou ca w) s.heap.size) ou ca 2 q.1 q.2.2.1 q.2.2.2.1 q.2.2.2.2 := by
      refine am_allc (am_ck_O X (List.mem_cons_of_mem _ (gw_mem 971 (by decide +kernel))) (List.mem_cons_of_mem _ (gw_mem 98 (by decide +kernel))) (List.mem_cons_of_mem _ (gw_mem 99 (by decide +kernel))) hR1 (kd10_init_ok (1, .invokespecial 1, 3) (List.mem_of_getElem? (i := 1) rfl))) am_all0
    exact hz _ (am_as_mem hq)
