/-! constructors -/
def prO_obj : List am_V → List am_C → Prop := fun a _ => ∃ q, a = [.inr (.inl q)]
def fmO_obj : am_M := fun _ w => (none, w, 0, 0)
theorem am_cyG {T : am_T} {len pc : Nat} {L : List (Option am_V)} {w w' wc : List am_C} {k j : Nat} {kt : am_S → Option am_Z} {a a' rest : List am_V} {sel : List Nat} {pre : List am_V → List am_C → Prop} {d1 : Decidable (am_sow w sel = true)} {d2 : Decidable (pre (a.map (am_dn sel)) (am_sub w sel))} {f : am_M} {z : Option am_Z} {r : Option am_V × List am_C × Nat × Nat} (hs : am_sow w sel = true) (hi : a.all (am_hin sel) = true) (ha : a.map (am_dn sel) = a') (hw : am_sub w sel = wc) (h : pre a' wc) (e : f a' wc = r) (hb : (Nat.ble sel.length r.2.1.length && ((r.2.1.length == sel.length && (r.2.1.all (am_loC sel.length) && am_loO sel.length r.1)) || (am_low w.length L rest w && Nat.ble (am_n0 T) w.length))) = true) (hm : am_mix w sel r.2.1 = w')
    (q : (bif Nat.ble (k + r.2.2.1) (am_mc T) && (Nat.ble (j + r.2.2.2) (am_ms T) && Nat.ble rest.length 8) then am_nx len pc kt 3 L (am_ans sel w.length r.1 ++ rest) w' (k + r.2.2.1) (j + r.2.2.2) else none) = z) : @ite _ (am_sow w sel = true) d1 (bif a.all (am_hin sel) then @ite _ (pre (a.map (am_dn sel)) (am_sub w sel)) d2 (am_aft T len pc L w k j kt rest sel (f (a.map (am_dn sel)) (am_sub w sel))) none else none) none = z := by
  subst e ha hw hm
  rw [if_pos hs, hi]
  refine am_ci h ?_
  refine am_ci hb ?_
  rw [am_sx, if_pos rfl]
  exact q
theorem hg_nk {s : State} {args : Array Value} {own : String} {x : Cond} {index ci : Nat} {C : String} {F : u_T} {N : Nat} {ty0 : Nat → FieldType} {fs : List am_V} (hts : ∀ w ∈ x :: gw_all, w.before args s = true) (hc : hn_cl[ci]? = some (C, F, N)) (hin : ∀ w ∈ u_ws C F N, w ∈ gw_all) (hty : ∀ k, k < N → parseFieldDescriptor (F k).2.2.1 = some (ty0 k)) (h1 : Cond.classLink own index C ∈ gw_all) (h2 : Cond.instantiable C N ∈ gw_all) (h3 : Cond.initialized C ∈ gw_all) (hl : fs.length = N) (hd : ∀ (ad ou : Nat → Nat) (j : Nat), j < N → defaultValue (ty0 j) = vp_V (fs.map (am_v ad ou)) j) : am_NK s args own (x :: gw_all) hn_cl index ci fs :=
  ⟨C, F, N, ty0, hc, fun w h => List.mem_cons_of_mem _ (hin w h), hty, hts _ (List.mem_cons_of_mem _ h1), hts _ (List.mem_cons_of_mem _ h2), hts _ (List.mem_cons_of_mem _ h3), hl, hd⟩
theorem hg_fkI {s : State} {args : Array Value} {meth : Method} {own : String} {x : Cond} {index ci fi : Nat} {C : String} {F : u_T} {N : Nat} {ty0 : Nat → FieldType} (hts : ∀ w ∈ x :: gw_all, w.before args s = true) (hnm : meth.name = "<init>") (hc : hn_cl[ci]? = some (C, F, N)) (hfi : fi < N) (hin : ∀ w ∈ u_ws C F N, w ∈ gw_all) (hty : ∀ k, k < N → parseFieldDescriptor (F k).2.2.1 = some (ty0 k)) (hnq : ∀ a, a < N → ∀ b, b < N → a ≠ b → (F a).2.1 ≠ (F b).2.1) (he : ty0 fi = hn_ty ci fi) (i : Nat)
    (hw : (lw_tbl[i]? == some (Cond.fieldLink own index (F fi).1 (F fi).2.1 (F fi).2.2.1) && goodWord (Cond.fieldLink own index (F fi).1 (F fi).2.1 (F fi).2.2.1)) = true) (hf : (F fi).2.2.2 = true ∧ (F fi).1 = own) : am_FK s args meth own (x :: gw_all) hn_cl hn_ty index ci fi 2 :=
  ⟨C, F, N, ty0, hc, hfi, fun w h => List.mem_cons_of_mem _ (hin w h), hty, hnq, he, fun _ => hts _ (List.mem_cons_of_mem _ (gw_mem i hw)), fun h => by omega, fun h => by omega, fun _ => ⟨hf.1, hnm, hf.2⟩⟩
theorem kj6_ok {s : State} {args : Array Value} {meth : Method} {x : Cond} (hts : ∀ w ∈ x :: gw_all, w.before args s = true) (hN : hg_Nw s) (hnm : meth.name = "<init>") : ∀ q ∈ kf6i, am_FK s args meth hn_R6 (x :: gw_all) hn_cl hn_ty q.1 q.2.1 q.2.2.1 q.2.2.2 :=
  am_allc (hg_fkI hts hnm rfl (by decide) hn_in6 hn_ok6 hn_nm6 rfl 109 (by decide +kernel) ⟨rfl, rfl⟩) (am_allc (hg_fk hts rfl (by decide) hn_in6 hn_ok6 hn_nm6 rfl (by decide) 110 (by decide +kernel) (by decide)) (am_allc (hg_fk hts rfl (by decide) hn_in6 hn_ok6 hn_nm6 rfl (by decide) 114 (by decide +kernel) (by decide)) (am_all0)))
theorem kj5_ok {s : State} {args : Array Value} {meth : Method} {x : Cond} (hts : ∀ w ∈ x :: gw_all, w.before args s = true) (hN : hg_Nw s) (hnm : meth.name = "<init>") : ∀ q ∈ kf5i, am_FK s args meth hn_R5 (x :: gw_all) hn_cl hn_ty q.1 q.2.1 q.2.2.1 q.2.2.2 :=
  am_allc (hg_fkI hts hnm rfl (by decide) hn_in5 hn_ok5 hn_nm5 rfl 156 (by decide +kernel) ⟨rfl, rfl⟩) (am_allc (hg_fkI hts hnm rfl (by decide) hn_in5 hn_ok5 hn_nm5 rfl 157 (by decide +kernel) ⟨rfl, rfl⟩) (am_allc (hg_fkI hts hnm rfl (by decide) hn_in5 hn_ok5 hn_nm5 rfl 158 (by decide +kernel) ⟨rfl, rfl⟩) (am_allc (hg_fkI hts hnm rfl (by decide) hn_in5 hn_ok5 hn_nm5 rfl 159 (by decide +kernel) ⟨rfl, rfl⟩) (am_allc (hg_fkI hts hnm rfl (by decide) hn_in5 hn_ok5 hn_nm5 rfl 160 (by decide +kernel) ⟨rfl, rfl⟩) (am_allc (hg_fkI hts hnm rfl (by decide) hn_in5 hn_ok5 hn_nm5 rfl 161 (by decide +kernel) ⟨rfl, rfl⟩) (am_allc (hg_fkI hts hnm rfl (by decide) hn_in5 hn_ok5 hn_nm5 rfl 162 (by decide +kernel) ⟨rfl, rfl⟩) (am_allc (hg_fk hts rfl (by decide) hn_in5 hn_ok5 hn_nm5 rfl (by decide) 163 (by decide +kernel) (by decide)) (am_allc (hg_fkN (host := "HoleTemplates") hN rfl (by decide) hn_in6 hn_ok6 hn_nm6 rfl (by decide) 0 rfl (by decide)) (am_allc (hg_fk hts rfl (by decide) hn_in5 hn_ok5 hn_nm5 rfl (by decide) 167 (by decide +kernel) (by decide)) (am_all0))))))))))
theorem kj1_ok {s : State} {args : Array Value} {meth : Method} {x : Cond} (hts : ∀ w ∈ x :: gw_all, w.before args s = true) (hN : hg_Nw s) (hnm : meth.name = "<init>") : ∀ q ∈ kf1, am_FK s args meth hn_R1 (x :: gw_all) hn_cl hn_ty q.1 q.2.1 q.2.2.1 q.2.2.2 :=
  am_allc (hg_fk hts rfl (by decide) hn_in1 hn_ok1 hn_nm1 rfl (by decide) 194 (by decide +kernel) (by decide)) (am_allc (hg_fk hts rfl (by decide) hn_in1 hn_ok1 hn_nm1 rfl (by decide) 196 (by decide +kernel) (by decide)) (am_allc (hg_fk hts rfl (by decide) hn_in1 hn_ok1 hn_nm1 rfl (by decide) 198 (by decide +kernel) (by decide)) (am_allc (hg_fk hts rfl (by decide) hn_in1 hn_ok1 hn_nm1 rfl (by decide) 200 (by decide +kernel) (by decide)) (am_allc (hg_fk hts rfl (by decide) hn_in1 hn_ok1 hn_nm1 rfl (by decide) 202 (by decide +kernel) (by decide)) (am_all0)))))
theorem kj8_ok {s : State} {args : Array Value} {meth : Method} {x : Cond} (hts : ∀ w ∈ x :: gw_all, w.before args s = true) (hN : hg_Nw s) (hnm : meth.name = "<init>") : ∀ q ∈ kf8i, am_FK s args meth hn_R8 (x :: gw_all) hn_cl hn_ty q.1 q.2.1 q.2.2.1 q.2.2.2 :=
  am_allc (hg_fkI hts hnm rfl (by decide) hn_in8 hn_ok8 hn_nm8 rfl 259 (by decide +kernel) ⟨rfl, rfl⟩) (am_allc (hg_fkN (host := "HoleTemplates") hN rfl (by decide) hn_in5 hn_ok5 hn_nm5 rfl (by decide) 4 rfl (by decide)) (am_allc (hg_fkN (host := "HoleTemplates") hN rfl (by decide) hn_in6 hn_ok6 hn_nm6 rfl (by decide) 3 rfl (by decide)) (am_all0)))
theorem kj0_ok {s : State} {args : Array Value} {meth : Method} {x : Cond} (hts : ∀ w ∈ x :: gw_all, w.before args s = true) (hN : hg_Nw s) (hnm : meth.name = "<init>") : ∀ q ∈ kf0i, am_FK s args meth hn_R0 (x :: gw_all) hn_cl hn_ty q.1 q.2.1 q.2.2.1 q.2.2.2 :=
  am_allc (hg_fkI hts hnm rfl (by decide) hn_in0 hn_ok0 hn_nm0 rfl 216 (by decide +kernel) ⟨rfl, rfl⟩) (am_allc (hg_fkI hts hnm rfl (by decide) hn_in0 hn_ok0 hn_nm0 rfl 218 (by decide +kernel) ⟨rfl, rfl⟩) (am_allc (hg_fkI hts hnm rfl (by decide) hn_in0 hn_ok0 hn_nm0 rfl 219 (by decide +kernel) ⟨rfl, rfl⟩) (am_allc (hg_fkI hts hnm rfl (by decide) hn_in0 hn_ok0 hn_nm0 rfl 220 (by decide +kernel) ⟨rfl, rfl⟩) (am_allc (hg_fkI hts hnm rfl (by decide) hn_in0 hn_ok0 hn_nm0 rfl 221 (by decide +kernel) ⟨rfl, rfl⟩) (am_allc (hg_fkI hts hnm rfl (by decide) hn_in0 hn_ok0 hn_nm0 rfl 222 (by decide +kernel) ⟨rfl, rfl⟩) (am_allc (hg_fk hts rfl (by decide) hn_in0 hn_ok0 hn_nm0 rfl (by decide) 226 (by decide +kernel) (by decide)) (am_allc (hg_fk hts rfl (by decide) hn_in0 hn_ok0 hn_nm0 rfl (by decide) 223 (by decide +kernel) (by decide)) (am_allc (hg_fk hts rfl (by decide) hn_in0 hn_ok0 hn_nm0 rfl (by decide) 224 (by decide +kernel) (by decide)) (am_allc (hg_fkN (host := "HoleTemplates") hN rfl (by decide) hn_in5 hn_ok5 hn_nm5 rfl (by decide) 5 rfl (by decide)) (am_allc (hg_fkN (host := "HoleTemplates") hN rfl (by decide) hn_in1 hn_ok1 hn_nm1 rfl (by decide) 9 rfl (by decide)) (am_allc (hg_fk hts rfl (by decide) hn_in0 hn_ok0 hn_nm0 rfl (by decide) 228 (by decide +kernel) (by decide)) (am_allc (hg_fkN (host := "HoleTemplates") hN rfl (by decide) hn_in1 hn_ok1 hn_nm1 rfl (by decide) 13 rfl (by decide)) (am_all0)))))))))))))
theorem kv6 : ∀ (ad ou : Nat → Nat) (j : Nat), j < 3 → defaultValue (hn_y6 j) = vp_V (hn_d6.map (am_v ad ou)) j := by
  intro ad ou j hj
  match j, hj with
  | 0, _ => rfl
  | 1, _ => rfl
  | 2, _ => rfl
theorem kv5 : ∀ (ad ou : Nat → Nat) (j : Nat), j < 9 → defaultValue (hn_y5 j) = vp_V (hn_d5.map (am_v ad ou)) j := by
  intro ad ou j hj
  match j, hj with
  | 0, _ => rfl
  | 1, _ => rfl
  | 2, _ => rfl
  | 3, _ => rfl
  | 4, _ => rfl
  | 5, _ => rfl
  | 6, _ => rfl
  | 7, _ => rfl
  | 8, _ => rfl
theorem kv1 : ∀ (ad ou : Nat → Nat) (j : Nat), j < 5 → defaultValue (hn_y1 j) = vp_V (hn_d1.map (am_v ad ou)) j := by
  intro ad ou j hj
  match j, hj with
  | 0, _ => rfl
  | 1, _ => rfl
  | 2, _ => rfl
  | 3, _ => rfl
  | 4, _ => rfl
noncomputable def ki6_init : List (Nat × Option (List Nat) × Nat × (List am_V → List am_C → Prop) × am_M) := [(1, none, 1, prO_obj, fmO_obj), (7, some [], 2, prJ_max, fmJ_max)]
def ke6_init : List (Nat × Nat × List am_V) := []
noncomputable def kb6_init : am_B := (kd6_init, am_as kf6i, hn_ty, fun _ => none, fun _ => none, am_as ki6_init, fun _ => none, 5, 2, none)
abbrev pr6_init : List am_V → List am_C → Prop := fun a w => ∃ p0 : Int32, a = [.inr (.inl 0), .inl p0] ∧ w = [.inr (6, [.inr (.inr 0), .inl 0, .inl 0])] ∧ (p0 = 40 ∨ p0 = 240 ∨ p0 = 1000)
def fm6_init : am_M := fun a _ => (none, [.inr (6, [.inr (.inl 1), .inl 0, .inl 0]), .inl (1, (am_i (am_an a 1)).toNatClampNeg, fun _ => 0)], 1, (am_i (am_an a 1)).toNatClampNeg)
theorem fe6_init (p0 : Int32) : fm6_init [.inr (.inl 0), .inl p0] [.inr (6, [.inr (.inr 0), .inl 0, .inl 0])] = (none, [.inr (6, [.inr (.inl 1), .inl 0, .inl 0]), .inl (1, p0.toNatClampNeg, fun _ => 0)], 1, p0.toNatClampNeg) := rfl
set_option maxRecDepth 100000 in
set_option maxHeartbeats 4000000 in
theorem re6_init40 : am_lf (am_mk kb6_init 1 40 1) [] (0, am_L0 [.inr (.inl 0), .inl 40] 2, [], [.inr (6, [.inr (.inr 0), .inl 0, .inl 0])], 0, 0) = some (none, [.inr (6, [.inr (.inl 1), .inl 0, .inl 0]), .inl (1, 40, fun _ => 0)]) := by
  refine am_lf_eq ?_
  generalize am_lf (am_mk kb6_init 1 40 1) [] = kt
  refine am_cx (pre := prO_obj) (f := fmO_obj) (r := (none, [.inr (6, [.inr (.inr 0), .inl 0, .inl 0])], 0, 0)) ?_ ?_ ?_ ?_
  · exact ⟨0, rfl⟩
  · rfl
  · rfl
  refine am_cy (pre := prJ_max) (f := fmJ_max) (a' := [.inl 40, .inl 0]) (wc := []) (w' := [.inr (6, [.inr (.inr 0), .inl 0, .inl 0])]) (r := (some (.inl 40), [], 0, 0)) ?_ ?_ ?_ ?_ ?_ ?_ ?_ ?_ ?_ ?_
  · exact am_sow0 _
  · rfl
  · rfl
  · exact am_sub0 _
  · exact ⟨40, 0, rfl, rfl, trivial⟩
  · rw [feJ_max, fqJ_max]
    rfl
  · rfl
  · rfl
  · exact am_mix0 _
  refine am_sp (w' := [.inr (6, [.inr (.inl 1), .inl 0, .inl 0]), .inl (1, 40, fun _ => 0)]) rfl ?_
  rfl
set_option maxRecDepth 100000 in
set_option maxHeartbeats 4000000 in
theorem re6_init240 : am_lf (am_mk kb6_init 1 240 1) [] (0, am_L0 [.inr (.inl 0), .inl 240] 2, [], [.inr (6, [.inr (.inr 0), .inl 0, .inl 0])], 0, 0) = some (none, [.inr (6, [.inr (.inl 1), .inl 0, .inl 0]), .inl (1, 240, fun _ => 0)]) := by
  refine am_lf_eq ?_
  generalize am_lf (am_mk kb6_init 1 240 1) [] = kt
  refine am_cx (pre := prO_obj) (f := fmO_obj) (r := (none, [.inr (6, [.inr (.inr 0), .inl 0, .inl 0])], 0, 0)) ?_ ?_ ?_ ?_
  · exact ⟨0, rfl⟩
  · rfl
  · rfl
  refine am_cy (pre := prJ_max) (f := fmJ_max) (a' := [.inl 240, .inl 0]) (wc := []) (w' := [.inr (6, [.inr (.inr 0), .inl 0, .inl 0])]) (r := (some (.inl 240), [], 0, 0)) ?_ ?_ ?_ ?_ ?_ ?_ ?_ ?_ ?_ ?_
  · exact am_sow0 _
  · rfl
  · rfl
  · exact am_sub0 _
  · exact ⟨240, 0, rfl, rfl, trivial⟩
  · rw [feJ_max, fqJ_max]
    rfl
  · rfl
  · rfl
  · exact am_mix0 _
  refine am_sp (w' := [.inr (6, [.inr (.inl 1), .inl 0, .inl 0]), .inl (1, 240, fun _ => 0)]) rfl ?_
  rfl
set_option maxRecDepth 100000 in
set_option maxHeartbeats 4000000 in
theorem re6_init1000 : am_lf (am_mk kb6_init 1 1000 1) [] (0, am_L0 [.inr (.inl 0), .inl 1000] 2, [], [.inr (6, [.inr (.inr 0), .inl 0, .inl 0])], 0, 0) = some (none, [.inr (6, [.inr (.inl 1), .inl 0, .inl 0]), .inl (1, 1000, fun _ => 0)]) := by
  refine am_lf_eq ?_
  generalize am_lf (am_mk kb6_init 1 1000 1) [] = kt
  refine am_cx (pre := prO_obj) (f := fmO_obj) (r := (none, [.inr (6, [.inr (.inr 0), .inl 0, .inl 0])], 0, 0)) ?_ ?_ ?_ ?_
  · exact ⟨0, rfl⟩
  · rfl
  · rfl
  refine am_cy (pre := prJ_max) (f := fmJ_max) (a' := [.inl 1000, .inl 0]) (wc := []) (w' := [.inr (6, [.inr (.inr 0), .inl 0, .inl 0])]) (r := (some (.inl 1000), [], 0, 0)) ?_ ?_ ?_ ?_ ?_ ?_ ?_ ?_ ?_ ?_
  · exact am_sow0 _
  · rfl
  · rfl
  · exact am_sub0 _
  · exact ⟨1000, 0, rfl, rfl, trivial⟩
  · rw [feJ_max, fqJ_max]
    rfl
  · rfl
  · rfl
  · exact am_mix0 _
  refine am_sp (w' := [.inr (6, [.inr (.inl 1), .inl 0, .inl 0]), .inl (1, 1000, fun _ => 0)]) rfl ?_
  rfl
set_option maxRecDepth 100000 in
set_option maxHeartbeats 4000000 in
theorem rn6_init : ∀ (a : List am_V) (w : List am_C), pr6_init a w → ∃ nq, am_ev (am_mk kb6_init (fm6_init a w).2.2.1 (fm6_init a w).2.2.2 w.length) [] nq (0, am_L0 a 2, [], w, 0, 0) = some ((fm6_init a w).1, (fm6_init a w).2.1) := by
  rintro a w ⟨p0, rfl, rfl, hp⟩
  rcases hp with rfl | rfl | rfl
  · exact am_lf_ev re6_init40
  · exact am_lf_ev re6_init240
  · exact am_lf_ev re6_init1000
theorem rl6_init : ∀ (a : List am_V) (w : List am_C), pr6_init a w → a.length ≤ 2 := by
  rintro a w ⟨p0, rfl, rfl, hp⟩
  exact Nat.le_of_ble_eq_true rfl
theorem pa6_init : ∀ a w, pr6_init a w → ∃ q a', a = .inr (.inl q) :: a' := by
  rintro a w ⟨p0, rfl, rfl, hp⟩
  exact ⟨0, _, rfl⟩
set_option maxRecDepth 100000 in
set_option maxHeartbeats 4000000 in
theorem km6_init {l : Launch} {E : (Nat → Prop) → State → Prop} {D : va_G} {ou : Nat → Nat} {ca : Nat → ClassId} (hE : hg_E E ou) : hg_Met l E D ou ca hy6_init prog_8_method_1_code 2 none 1 pr6_init fm6_init := by
  refine am_met (B := kb6_init) (cuts := []) (nt := 5) (by decide +kernel) rfl rfl (hg_tys_ok ca) ?_ (by decide) rl6_init ?_ rn6_init
  · exact fun t ht => List.mem_cons_of_mem _ (hg_arr t ht)
  · intro a w hp ad p e R s m args below meth c hR X hEs hnm
    have hR1 : 1 ≤ R.frames ∧ 40 ≤ R.locals := by rw [hR]; exact ⟨Nat.le_refl _, Nat.le_refl _⟩
    have hN := hE.2.1 _ _ hEs
    refine ⟨kd6_init_ok, fun index ci fi mode hq => kj6_ok X.2.2.2.2.1 hN.1 hnm (index, ci, fi, mode) (am_as_mem hq), fun index ci fs hq => (am_no hq).elim, fun x v hq => (am_no hq).elim, ?_, fun o t n f hq => (am_no hq).elim, rfl, rfl, by rw [hR]; exact Nat.le_refl _, by rw [hR]; exact Nat.le_refl _⟩
    intro pc sel n0 pre0 f0 hq
    have hz : ∀ q ∈ ki6_init, am_CK p l e R s m args below meth c D hn_cl (va_A (am_w ad ou ca w) s.heap.size) ou ca 2 q.1 q.2.2.1 q.2.2.2.1 q.2.2.2.2 := by
      refine am_allc (am_ck_O X (List.mem_cons_of_mem _ (gw_mem 105 (by decide +kernel))) (List.mem_cons_of_mem _ (gw_mem 98 (by decide +kernel))) (List.mem_cons_of_mem _ (gw_mem 99 (by decide +kernel))) ⟨Nat.le_trans (by decide) hR1.1, Nat.le_trans (by decide) hR1.2⟩ (kd6_init_ok (1, .invokespecial 3, 3) (List.mem_of_getElem? (i := 1) rfl))) (am_allc (am_ck_max X (List.mem_cons_of_mem _ (gw_mem 106 (by decide +kernel))) (List.mem_cons_of_mem _ (gw_mem 107 (by decide +kernel))) (List.mem_cons_of_mem _ (gw_mem 70 (by decide +kernel))) (List.mem_cons_of_mem _ (gw_mem 108 (by decide +kernel))) ⟨Nat.le_trans (by decide) hR1.1, Nat.le_trans (by decide) hR1.2⟩ (kd6_init_ok (7, .invokestatic 9, 3) (List.mem_of_getElem? (i := 5) rfl))) (am_all0))
    exact hz _ (am_as_mem hq)
noncomputable def ki5_init : List (Nat × Option (List Nat) × Nat × (List am_V → List am_C → Prop) × am_M) := [(1, none, 1, prO_obj, fmO_obj)]
def ke5_init : List (Nat × Nat × List am_V) := []
noncomputable def kb5_init : am_B := (kd5_init, am_as kf5i, hn_ty, fun _ => none, fun _ => none, am_as ki5_init, fun _ => none, 5, 1, none)
abbrev pr5_init : List am_V → List am_C → Prop := fun a w => a = [.inr (.inl 0)] ∧ w = [.inr (5, [.inr (.inr 0), .inr (.inr 0), .inr (.inr 0), .inr (.inr 0), .inr (.inr 0), .inr (.inr 0), .inr (.inr 0), .inl 0, .inl 0])]
def fm5_init : am_M := fun _ _ => (none, [.inr (5, [.inr (.inl 1), .inr (.inl 2), .inr (.inl 3), .inr (.inl 4), .inr (.inl 5), .inr (.inl 6), .inr (.inl 7), .inl 0, .inl 0]), .inl (0, 240, fun _ => 0), .inl (1, 240, fun _ => 0), .inl (0, 240, fun _ => 0), .inl (0, 240, fun _ => 0), .inl (0, 240, fun _ => 0), .inl (0, 240, fun _ => 0), .inl (0, 240, fun _ => 0)], 7, 1680)
theorem fe5_init : fm5_init [.inr (.inl 0)] [.inr (5, [.inr (.inr 0), .inr (.inr 0), .inr (.inr 0), .inr (.inr 0), .inr (.inr 0), .inr (.inr 0), .inr (.inr 0), .inl 0, .inl 0])] = (none, [.inr (5, [.inr (.inl 1), .inr (.inl 2), .inr (.inl 3), .inr (.inl 4), .inr (.inl 5), .inr (.inl 6), .inr (.inl 7), .inl 0, .inl 0]), .inl (0, 240, fun _ => 0), .inl (1, 240, fun _ => 0), .inl (0, 240, fun _ => 0), .inl (0, 240, fun _ => 0), .inl (0, 240, fun _ => 0), .inl (0, 240, fun _ => 0), .inl (0, 240, fun _ => 0)], 7, 1680) := rfl
set_option maxRecDepth 100000 in
set_option maxHeartbeats 4000000 in
theorem re5_init : am_lf (am_mk kb5_init 7 1680 1) [] (0, am_L0 [.inr (.inl 0)] 1, [], [.inr (5, [.inr (.inr 0), .inr (.inr 0), .inr (.inr 0), .inr (.inr 0), .inr (.inr 0), .inr (.inr 0), .inr (.inr 0), .inl 0, .inl 0])], 0, 0) = some (none, [.inr (5, [.inr (.inl 1), .inr (.inl 2), .inr (.inl 3), .inr (.inl 4), .inr (.inl 5), .inr (.inl 6), .inr (.inl 7), .inl 0, .inl 0]), .inl (0, 240, fun _ => 0), .inl (1, 240, fun _ => 0), .inl (0, 240, fun _ => 0), .inl (0, 240, fun _ => 0), .inl (0, 240, fun _ => 0), .inl (0, 240, fun _ => 0), .inl (0, 240, fun _ => 0)]) := by
  refine am_lf_eq ?_
  generalize am_lf (am_mk kb5_init 7 1680 1) [] = kt
  refine am_cx (pre := prO_obj) (f := fmO_obj) (r := (none, [.inr (5, [.inr (.inr 0), .inr (.inr 0), .inr (.inr 0), .inr (.inr 0), .inr (.inr 0), .inr (.inr 0), .inr (.inr 0), .inl 0, .inl 0])], 0, 0)) ?_ ?_ ?_ ?_
  · exact ⟨0, rfl⟩
  · rfl
  · rfl
  refine am_sp (w' := [.inr (5, [.inr (.inl 1), .inr (.inr 0), .inr (.inr 0), .inr (.inr 0), .inr (.inr 0), .inr (.inr 0), .inr (.inr 0), .inl 0, .inl 0]), .inl (0, 240, fun _ => 0)]) rfl ?_
  refine am_sp (w' := [.inr (5, [.inr (.inl 1), .inr (.inl 2), .inr (.inr 0), .inr (.inr 0), .inr (.inr 0), .inr (.inr 0), .inr (.inr 0), .inl 0, .inl 0]), .inl (0, 240, fun _ => 0), .inl (1, 240, fun _ => 0)]) rfl ?_
  refine am_sp (w' := [.inr (5, [.inr (.inl 1), .inr (.inl 2), .inr (.inl 3), .inr (.inr 0), .inr (.inr 0), .inr (.inr 0), .inr (.inr 0), .inl 0, .inl 0]), .inl (0, 240, fun _ => 0), .inl (1, 240, fun _ => 0), .inl (0, 240, fun _ => 0)]) rfl ?_
  refine am_sp (w' := [.inr (5, [.inr (.inl 1), .inr (.inl 2), .inr (.inl 3), .inr (.inl 4), .inr (.inr 0), .inr (.inr 0), .inr (.inr 0), .inl 0, .inl 0]), .inl (0, 240, fun _ => 0), .inl (1, 240, fun _ => 0), .inl (0, 240, fun _ => 0), .inl (0, 240, fun _ => 0)]) rfl ?_
  refine am_sp (w' := [.inr (5, [.inr (.inl 1), .inr (.inl 2), .inr (.inl 3), .inr (.inl 4), .inr (.inl 5), .inr (.inr 0), .inr (.inr 0), .inl 0, .inl 0]), .inl (0, 240, fun _ => 0), .inl (1, 240, fun _ => 0), .inl (0, 240, fun _ => 0), .inl (0, 240, fun _ => 0), .inl (0, 240, fun _ => 0)]) rfl ?_
  refine am_sp (w' := [.inr (5, [.inr (.inl 1), .inr (.inl 2), .inr (.inl 3), .inr (.inl 4), .inr (.inl 5), .inr (.inl 6), .inr (.inr 0), .inl 0, .inl 0]), .inl (0, 240, fun _ => 0), .inl (1, 240, fun _ => 0), .inl (0, 240, fun _ => 0), .inl (0, 240, fun _ => 0), .inl (0, 240, fun _ => 0), .inl (0, 240, fun _ => 0)]) rfl ?_
  refine am_sp (w' := [.inr (5, [.inr (.inl 1), .inr (.inl 2), .inr (.inl 3), .inr (.inl 4), .inr (.inl 5), .inr (.inl 6), .inr (.inl 7), .inl 0, .inl 0]), .inl (0, 240, fun _ => 0), .inl (1, 240, fun _ => 0), .inl (0, 240, fun _ => 0), .inl (0, 240, fun _ => 0), .inl (0, 240, fun _ => 0), .inl (0, 240, fun _ => 0), .inl (0, 240, fun _ => 0)]) rfl ?_
  rfl
set_option maxRecDepth 100000 in
set_option maxHeartbeats 4000000 in
theorem rn5_init : ∀ (a : List am_V) (w : List am_C), pr5_init a w → ∃ nq, am_ev (am_mk kb5_init (fm5_init a w).2.2.1 (fm5_init a w).2.2.2 w.length) [] nq (0, am_L0 a 1, [], w, 0, 0) = some ((fm5_init a w).1, (fm5_init a w).2.1) := by
  rintro a w ⟨rfl, rfl⟩
  exact am_lf_ev re5_init
theorem rl5_init : ∀ (a : List am_V) (w : List am_C), pr5_init a w → a.length ≤ 1 := by
  rintro a w ⟨rfl, rfl⟩
  exact Nat.le_of_ble_eq_true rfl
theorem pa5_init : ∀ a w, pr5_init a w → ∃ q a', a = .inr (.inl q) :: a' := by
  rintro a w ⟨rfl, rfl⟩
  exact ⟨0, _, rfl⟩
set_option maxRecDepth 100000 in
set_option maxHeartbeats 4000000 in
theorem km5_init {l : Launch} {E : (Nat → Prop) → State → Prop} {D : va_G} {ou : Nat → Nat} {ca : Nat → ClassId} (hE : hg_E E ou) : hg_Met l E D ou ca hy5_init prog_7_method_1_code 1 none 1 pr5_init fm5_init := by
  refine am_met (B := kb5_init) (cuts := []) (nt := 5) (by decide +kernel) rfl rfl (hg_tys_ok ca) ?_ (by decide) rl5_init ?_ rn5_init
  · exact fun t ht => List.mem_cons_of_mem _ (hg_arr t ht)
  · intro a w hp ad p e R s m args below meth c hR X hEs hnm
    have hR1 : 1 ≤ R.frames ∧ 40 ≤ R.locals := by rw [hR]; exact ⟨Nat.le_refl _, Nat.le_refl _⟩
    have hN := hE.2.1 _ _ hEs
    refine ⟨kd5_init_ok, fun index ci fi mode hq => kj5_ok X.2.2.2.2.1 hN.1 hnm (index, ci, fi, mode) (am_as_mem hq), fun index ci fs hq => (am_no hq).elim, fun x v hq => (am_no hq).elim, ?_, fun o t n f hq => (am_no hq).elim, rfl, rfl, by rw [hR]; exact Nat.le_refl _, by rw [hR]; exact Nat.le_refl _⟩
    intro pc sel n0 pre0 f0 hq
    have hz : ∀ q ∈ ki5_init, am_CK p l e R s m args below meth c D hn_cl (va_A (am_w ad ou ca w) s.heap.size) ou ca 1 q.1 q.2.2.1 q.2.2.2.1 q.2.2.2.2 := by
      refine am_allc (am_ck_O X (List.mem_cons_of_mem _ (gw_mem 155 (by decide +kernel))) (List.mem_cons_of_mem _ (gw_mem 98 (by decide +kernel))) (List.mem_cons_of_mem _ (gw_mem 99 (by decide +kernel))) ⟨Nat.le_trans (by decide) hR1.1, Nat.le_trans (by decide) hR1.2⟩ (kd5_init_ok (1, .invokespecial 3, 3) (List.mem_of_getElem? (i := 1) rfl))) (am_all0)
    exact hz _ (am_as_mem hq)
noncomputable def ki1_init : List (Nat × Option (List Nat) × Nat × (List am_V → List am_C → Prop) × am_M) := [(1, none, 1, prO_obj, fmO_obj)]
def ke1_init : List (Nat × Nat × List am_V) := []
noncomputable def kb1_init : am_B := (kd1_init, am_as kf1, hn_ty, fun _ => none, fun _ => none, am_as ki1_init, fun _ => none, 5, 1, none)
abbrev pr1_init : List am_V → List am_C → Prop := fun a w => a = [.inr (.inl 0)] ∧ w = [.inr (1, [.inl 0, .inl 0, .inl 0, .inl 0, .inl 0])]
def fm1_init : am_M := fun _ _ => (none, [.inr (1, [.inl 0, .inl 0, .inl 0, .inl 0, .inl 0])], 0, 0)
theorem fe1_init : fm1_init [.inr (.inl 0)] [.inr (1, [.inl 0, .inl 0, .inl 0, .inl 0, .inl 0])] = (none, [.inr (1, [.inl 0, .inl 0, .inl 0, .inl 0, .inl 0])], 0, 0) := rfl
set_option maxRecDepth 100000 in
set_option maxHeartbeats 4000000 in
theorem re1_init : am_lf (am_mk kb1_init 0 0 1) [] (0, am_L0 [.inr (.inl 0)] 1, [], [.inr (1, [.inl 0, .inl 0, .inl 0, .inl 0, .inl 0])], 0, 0) = some (none, [.inr (1, [.inl 0, .inl 0, .inl 0, .inl 0, .inl 0])]) := by
  refine am_lf_eq ?_
  generalize am_lf (am_mk kb1_init 0 0 1) [] = kt
  refine am_cx (pre := prO_obj) (f := fmO_obj) (r := (none, [.inr (1, [.inl 0, .inl 0, .inl 0, .inl 0, .inl 0])], 0, 0)) ?_ ?_ ?_ ?_
  · exact ⟨0, rfl⟩
  · rfl
  · rfl
  rfl
set_option maxRecDepth 100000 in
set_option maxHeartbeats 4000000 in
theorem rn1_init : ∀ (a : List am_V) (w : List am_C), pr1_init a w → ∃ nq, am_ev (am_mk kb1_init (fm1_init a w).2.2.1 (fm1_init a w).2.2.2 w.length) [] nq (0, am_L0 a 1, [], w, 0, 0) = some ((fm1_init a w).1, (fm1_init a w).2.1) := by
  rintro a w ⟨rfl, rfl⟩
  exact am_lf_ev re1_init
theorem rl1_init : ∀ (a : List am_V) (w : List am_C), pr1_init a w → a.length ≤ 1 := by
  rintro a w ⟨rfl, rfl⟩
  exact Nat.le_of_ble_eq_true rfl
theorem pa1_init : ∀ a w, pr1_init a w → ∃ q a', a = .inr (.inl q) :: a' := by
  rintro a w ⟨rfl, rfl⟩
  exact ⟨0, _, rfl⟩
set_option maxRecDepth 100000 in
set_option maxHeartbeats 4000000 in
theorem km1_init {l : Launch} {E : (Nat → Prop) → State → Prop} {D : va_G} {ou : Nat → Nat} {ca : Nat → ClassId} (hE : hg_E E ou) : hg_Met l E D ou ca hy1_init prog_3_method_1_code 1 none 1 pr1_init fm1_init := by
  refine am_met (B := kb1_init) (cuts := []) (nt := 5) (by decide +kernel) rfl rfl (hg_tys_ok ca) ?_ (by decide) rl1_init ?_ rn1_init
  · exact fun t ht => List.mem_cons_of_mem _ (hg_arr t ht)
  · intro a w hp ad p e R s m args below meth c hR X hEs hnm
    have hR1 : 1 ≤ R.frames ∧ 40 ≤ R.locals := by rw [hR]; exact ⟨Nat.le_refl _, Nat.le_refl _⟩
    have hN := hE.2.1 _ _ hEs
    refine ⟨kd1_init_ok, fun index ci fi mode hq => kj1_ok X.2.2.2.2.1 hN.1 hnm (index, ci, fi, mode) (am_as_mem hq), fun index ci fs hq => (am_no hq).elim, fun x v hq => (am_no hq).elim, ?_, fun o t n f hq => (am_no hq).elim, rfl, rfl, by rw [hR]; exact Nat.le_refl _, by rw [hR]; exact Nat.le_refl _⟩
    intro pc sel n0 pre0 f0 hq
    have hz : ∀ q ∈ ki1_init, am_CK p l e R s m args below meth c D hn_cl (va_A (am_w ad ou ca w) s.heap.size) ou ca 1 q.1 q.2.2.1 q.2.2.2.1 q.2.2.2.2 := by
      refine am_allc (am_ck_O X (List.mem_cons_of_mem _ (gw_mem 192 (by decide +kernel))) (List.mem_cons_of_mem _ (gw_mem 98 (by decide +kernel))) (List.mem_cons_of_mem _ (gw_mem 99 (by decide +kernel))) ⟨Nat.le_trans (by decide) hR1.1, Nat.le_trans (by decide) hR1.2⟩ (kd1_init_ok (1, .invokespecial 3, 3) (List.mem_of_getElem? (i := 1) rfl))) (am_all0)
    exact hz _ (am_as_mem hq)
noncomputable def ki8_init : List (Nat × Option (List Nat) × Nat × (List am_V → List am_C → Prop) × am_M) := [(1, none, 1, prO_obj, fmO_obj), (12, some [1], 2, pr6_init, fm6_init)]
def ke8_init : List (Nat × Nat × List am_V) := [(9, 6, hn_d6)]
noncomputable def kb8_init : am_B := (kd8_init, am_as kf8i, hn_ty, am_as ke8_init, fun _ => none, am_as ki8_init, fun _ => none, 5, 1, none)
abbrev pr8_init : List am_V → List am_C → Prop := fun a w => a = [.inr (.inl 0)] ∧ w = [.inr (8, [.inr (.inr 0)])]
def fm8_init : am_M := fun _ _ => (none, [.inr (8, [.inr (.inl 1)]), .inr (6, [.inr (.inl 2), .inl 0, .inl 0]), .inl (1, 1000, fun _ => 0)], 2, 1003)
theorem fe8_init : fm8_init [.inr (.inl 0)] [.inr (8, [.inr (.inr 0)])] = (none, [.inr (8, [.inr (.inl 1)]), .inr (6, [.inr (.inl 2), .inl 0, .inl 0]), .inl (1, 1000, fun _ => 0)], 2, 1003) := rfl
set_option maxRecDepth 100000 in
set_option maxHeartbeats 4000000 in
theorem re8_init : am_lf (am_mk kb8_init 2 1003 1) [] (0, am_L0 [.inr (.inl 0)] 1, [], [.inr (8, [.inr (.inr 0)])], 0, 0) = some (none, [.inr (8, [.inr (.inl 1)]), .inr (6, [.inr (.inl 2), .inl 0, .inl 0]), .inl (1, 1000, fun _ => 0)]) := by
  refine am_lf_eq ?_
  generalize am_lf (am_mk kb8_init 2 1003 1) [] = kt
  refine am_cx (pre := prO_obj) (f := fmO_obj) (r := (none, [.inr (8, [.inr (.inr 0)])], 0, 0)) ?_ ?_ ?_ ?_
  · exact ⟨0, rfl⟩
  · rfl
  · rfl
  refine am_cyG (pre := pr6_init) (f := fm6_init) (a' := [.inr (.inl 0), .inl 1000]) (wc := [.inr (6, [.inr (.inr 0), .inl 0, .inl 0])]) (w' := [.inr (8, [.inr (.inr 0)]), .inr (6, [.inr (.inl 2), .inl 0, .inl 0]), .inl (1, 1000, fun _ => 0)]) (r := (none, [.inr (6, [.inr (.inl 1), .inl 0, .inl 0]), .inl (1, 1000, fun _ => 0)], 1, 1000)) ?_ ?_ ?_ ?_ ?_ ?_ ?_ ?_ ?_
  · rfl
  · rfl
  · rfl
  · rfl
  · exact ⟨1000, rfl, rfl, by decide⟩
  · exact fe6_init 1000
  · rfl
  · rfl
  refine am_sp (w' := [.inr (8, [.inr (.inl 1)]), .inr (6, [.inr (.inl 2), .inl 0, .inl 0]), .inl (1, 1000, fun _ => 0)]) rfl ?_
  rfl
set_option maxRecDepth 100000 in
set_option maxHeartbeats 4000000 in
theorem rn8_init : ∀ (a : List am_V) (w : List am_C), pr8_init a w → ∃ nq, am_ev (am_mk kb8_init (fm8_init a w).2.2.1 (fm8_init a w).2.2.2 w.length) [] nq (0, am_L0 a 1, [], w, 0, 0) = some ((fm8_init a w).1, (fm8_init a w).2.1) := by
  rintro a w ⟨rfl, rfl⟩
  exact am_lf_ev re8_init
theorem rl8_init : ∀ (a : List am_V) (w : List am_C), pr8_init a w → a.length ≤ 1 := by
  rintro a w ⟨rfl, rfl⟩
  exact Nat.le_of_ble_eq_true rfl
theorem pa8_init : ∀ a w, pr8_init a w → ∃ q a', a = .inr (.inl q) :: a' := by
  rintro a w ⟨rfl, rfl⟩
  exact ⟨0, _, rfl⟩
set_option maxRecDepth 100000 in
set_option maxHeartbeats 4000000 in
theorem km8_init {l : Launch} {E : (Nat → Prop) → State → Prop} {D : va_G} {ou : Nat → Nat} {ca : Nat → ClassId} (hE : hg_E E ou) : hg_Met l E D ou ca hy8_init prog_10_method_1_code 1 none 2 pr8_init fm8_init := by
  refine am_met (B := kb8_init) (cuts := []) (nt := 5) (by decide +kernel) rfl rfl (hg_tys_ok ca) ?_ (by decide) rl8_init ?_ rn8_init
  · exact fun t ht => List.mem_cons_of_mem _ (hg_arr t ht)
  · intro a w hp ad p e R s m args below meth c hR X hEs hnm
    have hR1 : 2 ≤ R.frames ∧ 80 ≤ R.locals := by rw [hR]; exact ⟨Nat.le_refl _, Nat.le_refl _⟩
    have hN := hE.2.1 _ _ hEs
    have hnw : ∀ q ∈ ke8_init, am_NK s args hn_R8 (Cond.code hy8_init prog_10_method_1_code 1 none :: gw_all) hn_cl q.1 q.2.1 q.2.2 := am_allc (hg_nk X.2.2.2.2.1 rfl hn_in6 hn_ok6 (gw_mem 257 (by decide +kernel)) (gw_mem 101 (by decide +kernel)) (gw_mem 69 (by decide +kernel)) rfl kv6) (am_all0)
    refine ⟨kd8_init_ok, fun index ci fi mode hq => kj8_ok X.2.2.2.2.1 hN.1 hnm (index, ci, fi, mode) (am_as_mem hq), fun index ci fs hq => hnw (index, ci, fs) (am_as_mem hq), fun x v hq => (am_no hq).elim, ?_, fun o t n f hq => (am_no hq).elim, rfl, rfl, by rw [hR]; exact Nat.le_refl _, by rw [hR]; exact Nat.le_refl _⟩
    intro pc sel n0 pre0 f0 hq
    have hz : ∀ q ∈ ki8_init, am_CK p l e R s m args below meth c D hn_cl (va_A (am_w ad ou ca w) s.heap.size) ou ca 1 q.1 q.2.2.1 q.2.2.2.1 q.2.2.2.2 := by
      refine am_allc (am_ck_O X (List.mem_cons_of_mem _ (gw_mem 256 (by decide +kernel))) (List.mem_cons_of_mem _ (gw_mem 98 (by decide +kernel))) (List.mem_cons_of_mem _ (gw_mem 99 (by decide +kernel))) ⟨Nat.le_trans (by decide) hR1.1, Nat.le_trans (by decide) hR1.2⟩ (kd8_init_ok (1, .invokespecial 3, 3) (List.mem_of_getElem? (i := 1) rfl))) (am_allc (am_ck_I (n := 1) X hEs hE.1 (km6_init hE) (hg_good (gw_mem 104 (by decide +kernel))) rfl (List.mem_cons_of_mem _ (gw_mem 69 (by decide +kernel))) (List.mem_cons_of_mem _ (gw_mem 258 (by decide +kernel))) (List.mem_cons_of_mem _ (gw_mem 103 (by decide +kernel))) rfl pa6_init (by decide +kernel) ⟨Nat.le_trans (by decide) hR1.1, Nat.le_trans (by decide) hR1.2⟩ (kd8_init_ok (12, .invokespecial 11, 3) (List.mem_of_getElem? (i := 6) rfl))) (am_all0))
    exact hz _ (am_as_mem hq)
noncomputable def ki0_init : List (Nat × Option (List Nat) × Nat × (List am_V → List am_C → Prop) × am_M) := [(1, none, 1, prO_obj, fmO_obj), (9, some [1], 1, pr5_init, fm5_init), (20, some [9], 1, pr1_init, fm1_init)]
def ke0_init : List (Nat × Nat × List am_V) := [(9, 5, hn_d5), (18, 1, hn_d1)]
noncomputable def kb0_init : am_B := (kd0_init, am_as kf0i, hn_ty, am_as ke0_init, fun _ => none, am_as ki0_init, fun _ => none, 5, 1, none)
abbrev pr0_init : List am_V → List am_C → Prop := fun a w => a = [.inr (.inl 0)] ∧ w = [.inr (0, [.inr (.inr 0), .inr (.inr 0), .inr (.inr 0), .inr (.inr 0), .inr (.inr 0), .inr (.inr 0), .inl 0, .inl 0, .inl 0, .inl 0])]
def fm0_init : am_M := fun _ _ => (none, [.inr (0, [.inr (.inl 1), .inr (.inl 9), .inr (.inl 10), .inr (.inl 11), .inr (.inl 12), .inr (.inl 13), .inl 0, .inl 0, .inl (-1), .inl 0]), .inr (5, [.inr (.inl 2), .inr (.inl 3), .inr (.inl 4), .inr (.inl 5), .inr (.inl 6), .inr (.inl 7), .inr (.inl 8), .inl 0, .inl 0]), .inl (0, 240, fun _ => 0), .inl (1, 240, fun _ => 0), .inl (0, 240, fun _ => 0), .inl (0, 240, fun _ => 0), .inl (0, 240, fun _ => 0), .inl (0, 240, fun _ => 0), .inl (0, 240, fun _ => 0), .inr (1, [.inl 0, .inl 0, .inl 0, .inl 0, .inl 0]), .inl (0, 240, fun _ => 0), .inl (0, 6, fun _ => 0), .inl (0, 6, fun _ => 0), .inl (0, 6, fun _ => 0)], 13, 1952)
theorem fe0_init : fm0_init [.inr (.inl 0)] [.inr (0, [.inr (.inr 0), .inr (.inr 0), .inr (.inr 0), .inr (.inr 0), .inr (.inr 0), .inr (.inr 0), .inl 0, .inl 0, .inl 0, .inl 0])] = (none, [.inr (0, [.inr (.inl 1), .inr (.inl 9), .inr (.inl 10), .inr (.inl 11), .inr (.inl 12), .inr (.inl 13), .inl 0, .inl 0, .inl (-1), .inl 0]), .inr (5, [.inr (.inl 2), .inr (.inl 3), .inr (.inl 4), .inr (.inl 5), .inr (.inl 6), .inr (.inl 7), .inr (.inl 8), .inl 0, .inl 0]), .inl (0, 240, fun _ => 0), .inl (1, 240, fun _ => 0), .inl (0, 240, fun _ => 0), .inl (0, 240, fun _ => 0), .inl (0, 240, fun _ => 0), .inl (0, 240, fun _ => 0), .inl (0, 240, fun _ => 0), .inr (1, [.inl 0, .inl 0, .inl 0, .inl 0, .inl 0]), .inl (0, 240, fun _ => 0), .inl (0, 6, fun _ => 0), .inl (0, 6, fun _ => 0), .inl (0, 6, fun _ => 0)], 13, 1952) := rfl
set_option maxRecDepth 100000 in
set_option maxHeartbeats 4000000 in
theorem re0_init : am_lf (am_mk kb0_init 13 1952 1) [] (0, am_L0 [.inr (.inl 0)] 1, [], [.inr (0, [.inr (.inr 0), .inr (.inr 0), .inr (.inr 0), .inr (.inr 0), .inr (.inr 0), .inr (.inr 0), .inl 0, .inl 0, .inl 0, .inl 0])], 0, 0) = some (none, [.inr (0, [.inr (.inl 1), .inr (.inl 9), .inr (.inl 10), .inr (.inl 11), .inr (.inl 12), .inr (.inl 13), .inl 0, .inl 0, .inl (-1), .inl 0]), .inr (5, [.inr (.inl 2), .inr (.inl 3), .inr (.inl 4), .inr (.inl 5), .inr (.inl 6), .inr (.inl 7), .inr (.inl 8), .inl 0, .inl 0]), .inl (0, 240, fun _ => 0), .inl (1, 240, fun _ => 0), .inl (0, 240, fun _ => 0), .inl (0, 240, fun _ => 0), .inl (0, 240, fun _ => 0), .inl (0, 240, fun _ => 0), .inl (0, 240, fun _ => 0), .inr (1, [.inl 0, .inl 0, .inl 0, .inl 0, .inl 0]), .inl (0, 240, fun _ => 0), .inl (0, 6, fun _ => 0), .inl (0, 6, fun _ => 0), .inl (0, 6, fun _ => 0)]) := by
  refine am_lf_eq ?_
  generalize am_lf (am_mk kb0_init 13 1952 1) [] = kt
  refine am_cx (pre := prO_obj) (f := fmO_obj) (r := (none, [.inr (0, [.inr (.inr 0), .inr (.inr 0), .inr (.inr 0), .inr (.inr 0), .inr (.inr 0), .inr (.inr 0), .inl 0, .inl 0, .inl 0, .inl 0])], 0, 0)) ?_ ?_ ?_ ?_
  · exact ⟨0, rfl⟩
  · rfl
  · rfl
  refine am_cyG (pre := pr5_init) (f := fm5_init) (a' := [.inr (.inl 0)]) (wc := [.inr (5, [.inr (.inr 0), .inr (.inr 0), .inr (.inr 0), .inr (.inr 0), .inr (.inr 0), .inr (.inr 0), .inr (.inr 0), .inl 0, .inl 0])]) (w' := [.inr (0, [.inr (.inr 0), .inr (.inr 0), .inr (.inr 0), .inr (.inr 0), .inr (.inr 0), .inr (.inr 0), .inl 0, .inl 0, .inl 0, .inl 0]), .inr (5, [.inr (.inl 2), .inr (.inl 3), .inr (.inl 4), .inr (.inl 5), .inr (.inl 6), .inr (.inl 7), .inr (.inl 8), .inl 0, .inl 0]), .inl (0, 240, fun _ => 0), .inl (1, 240, fun _ => 0), .inl (0, 240, fun _ => 0), .inl (0, 240, fun _ => 0), .inl (0, 240, fun _ => 0), .inl (0, 240, fun _ => 0), .inl (0, 240, fun _ => 0)]) (r := (none, [.inr (5, [.inr (.inl 1), .inr (.inl 2), .inr (.inl 3), .inr (.inl 4), .inr (.inl 5), .inr (.inl 6), .inr (.inl 7), .inl 0, .inl 0]), .inl (0, 240, fun _ => 0), .inl (1, 240, fun _ => 0), .inl (0, 240, fun _ => 0), .inl (0, 240, fun _ => 0), .inl (0, 240, fun _ => 0), .inl (0, 240, fun _ => 0), .inl (0, 240, fun _ => 0)], 7, 1680)) ?_ ?_ ?_ ?_ ?_ ?_ ?_ ?_ ?_
  · rfl
  · rfl
  · rfl
  · rfl
  · exact ⟨rfl, rfl⟩
  · exact fe5_init
  · rfl
  · rfl
  refine am_sp (w' := [.inr (0, [.inr (.inl 1), .inr (.inr 0), .inr (.inr 0), .inr (.inr 0), .inr (.inr 0), .inr (.inr 0), .inl 0, .inl 0, .inl 0, .inl 0]), .inr (5, [.inr (.inl 2), .inr (.inl 3), .inr (.inl 4), .inr (.inl 5), .inr (.inl 6), .inr (.inl 7), .inr (.inl 8), .inl 0, .inl 0]), .inl (0, 240, fun _ => 0), .inl (1, 240, fun _ => 0), .inl (0, 240, fun _ => 0), .inl (0, 240, fun _ => 0), .inl (0, 240, fun _ => 0), .inl (0, 240, fun _ => 0), .inl (0, 240, fun _ => 0)]) rfl ?_
  refine am_cyG (pre := pr1_init) (f := fm1_init) (a' := [.inr (.inl 0)]) (wc := [.inr (1, [.inl 0, .inl 0, .inl 0, .inl 0, .inl 0])]) (w' := [.inr (0, [.inr (.inl 1), .inr (.inr 0), .inr (.inr 0), .inr (.inr 0), .inr (.inr 0), .inr (.inr 0), .inl 0, .inl 0, .inl 0, .inl 0]), .inr (5, [.inr (.inl 2), .inr (.inl 3), .inr (.inl 4), .inr (.inl 5), .inr (.inl 6), .inr (.inl 7), .inr (.inl 8), .inl 0, .inl 0]), .inl (0, 240, fun _ => 0), .inl (1, 240, fun _ => 0), .inl (0, 240, fun _ => 0), .inl (0, 240, fun _ => 0), .inl (0, 240, fun _ => 0), .inl (0, 240, fun _ => 0), .inl (0, 240, fun _ => 0), .inr (1, [.inl 0, .inl 0, .inl 0, .inl 0, .inl 0])]) (r := (none, [.inr (1, [.inl 0, .inl 0, .inl 0, .inl 0, .inl 0])], 0, 0)) ?_ ?_ ?_ ?_ ?_ ?_ ?_ ?_ ?_
  · rfl
  · rfl
  · rfl
  · rfl
  · exact ⟨rfl, rfl⟩
  · exact fe1_init
  · rfl
  · rfl
  refine am_sp (w' := [.inr (0, [.inr (.inl 1), .inr (.inl 9), .inr (.inr 0), .inr (.inr 0), .inr (.inr 0), .inr (.inr 0), .inl 0, .inl 0, .inl 0, .inl 0]), .inr (5, [.inr (.inl 2), .inr (.inl 3), .inr (.inl 4), .inr (.inl 5), .inr (.inl 6), .inr (.inl 7), .inr (.inl 8), .inl 0, .inl 0]), .inl (0, 240, fun _ => 0), .inl (1, 240, fun _ => 0), .inl (0, 240, fun _ => 0), .inl (0, 240, fun _ => 0), .inl (0, 240, fun _ => 0), .inl (0, 240, fun _ => 0), .inl (0, 240, fun _ => 0), .inr (1, [.inl 0, .inl 0, .inl 0, .inl 0, .inl 0])]) rfl ?_
  refine am_sp (w' := [.inr (0, [.inr (.inl 1), .inr (.inl 9), .inr (.inl 10), .inr (.inr 0), .inr (.inr 0), .inr (.inr 0), .inl 0, .inl 0, .inl 0, .inl 0]), .inr (5, [.inr (.inl 2), .inr (.inl 3), .inr (.inl 4), .inr (.inl 5), .inr (.inl 6), .inr (.inl 7), .inr (.inl 8), .inl 0, .inl 0]), .inl (0, 240, fun _ => 0), .inl (1, 240, fun _ => 0), .inl (0, 240, fun _ => 0), .inl (0, 240, fun _ => 0), .inl (0, 240, fun _ => 0), .inl (0, 240, fun _ => 0), .inl (0, 240, fun _ => 0), .inr (1, [.inl 0, .inl 0, .inl 0, .inl 0, .inl 0]), .inl (0, 240, fun _ => 0)]) rfl ?_
  refine am_sp (w' := [.inr (0, [.inr (.inl 1), .inr (.inl 9), .inr (.inl 10), .inr (.inl 11), .inr (.inr 0), .inr (.inr 0), .inl 0, .inl 0, .inl 0, .inl 0]), .inr (5, [.inr (.inl 2), .inr (.inl 3), .inr (.inl 4), .inr (.inl 5), .inr (.inl 6), .inr (.inl 7), .inr (.inl 8), .inl 0, .inl 0]), .inl (0, 240, fun _ => 0), .inl (1, 240, fun _ => 0), .inl (0, 240, fun _ => 0), .inl (0, 240, fun _ => 0), .inl (0, 240, fun _ => 0), .inl (0, 240, fun _ => 0), .inl (0, 240, fun _ => 0), .inr (1, [.inl 0, .inl 0, .inl 0, .inl 0, .inl 0]), .inl (0, 240, fun _ => 0), .inl (0, 6, fun _ => 0)]) rfl ?_
  refine am_sp (w' := [.inr (0, [.inr (.inl 1), .inr (.inl 9), .inr (.inl 10), .inr (.inl 11), .inr (.inl 12), .inr (.inr 0), .inl 0, .inl 0, .inl 0, .inl 0]), .inr (5, [.inr (.inl 2), .inr (.inl 3), .inr (.inl 4), .inr (.inl 5), .inr (.inl 6), .inr (.inl 7), .inr (.inl 8), .inl 0, .inl 0]), .inl (0, 240, fun _ => 0), .inl (1, 240, fun _ => 0), .inl (0, 240, fun _ => 0), .inl (0, 240, fun _ => 0), .inl (0, 240, fun _ => 0), .inl (0, 240, fun _ => 0), .inl (0, 240, fun _ => 0), .inr (1, [.inl 0, .inl 0, .inl 0, .inl 0, .inl 0]), .inl (0, 240, fun _ => 0), .inl (0, 6, fun _ => 0), .inl (0, 6, fun _ => 0)]) rfl ?_
  refine am_sp (w' := [.inr (0, [.inr (.inl 1), .inr (.inl 9), .inr (.inl 10), .inr (.inl 11), .inr (.inl 12), .inr (.inl 13), .inl 0, .inl 0, .inl 0, .inl 0]), .inr (5, [.inr (.inl 2), .inr (.inl 3), .inr (.inl 4), .inr (.inl 5), .inr (.inl 6), .inr (.inl 7), .inr (.inl 8), .inl 0, .inl 0]), .inl (0, 240, fun _ => 0), .inl (1, 240, fun _ => 0), .inl (0, 240, fun _ => 0), .inl (0, 240, fun _ => 0), .inl (0, 240, fun _ => 0), .inl (0, 240, fun _ => 0), .inl (0, 240, fun _ => 0), .inr (1, [.inl 0, .inl 0, .inl 0, .inl 0, .inl 0]), .inl (0, 240, fun _ => 0), .inl (0, 6, fun _ => 0), .inl (0, 6, fun _ => 0), .inl (0, 6, fun _ => 0)]) rfl ?_
  refine am_sp (w' := [.inr (0, [.inr (.inl 1), .inr (.inl 9), .inr (.inl 10), .inr (.inl 11), .inr (.inl 12), .inr (.inl 13), .inl 0, .inl 0, .inl (-1), .inl 0]), .inr (5, [.inr (.inl 2), .inr (.inl 3), .inr (.inl 4), .inr (.inl 5), .inr (.inl 6), .inr (.inl 7), .inr (.inl 8), .inl 0, .inl 0]), .inl (0, 240, fun _ => 0), .inl (1, 240, fun _ => 0), .inl (0, 240, fun _ => 0), .inl (0, 240, fun _ => 0), .inl (0, 240, fun _ => 0), .inl (0, 240, fun _ => 0), .inl (0, 240, fun _ => 0), .inr (1, [.inl 0, .inl 0, .inl 0, .inl 0, .inl 0]), .inl (0, 240, fun _ => 0), .inl (0, 6, fun _ => 0), .inl (0, 6, fun _ => 0), .inl (0, 6, fun _ => 0)]) rfl ?_
  rfl
set_option maxRecDepth 100000 in
set_option maxHeartbeats 4000000 in
theorem rn0_init : ∀ (a : List am_V) (w : List am_C), pr0_init a w → ∃ nq, am_ev (am_mk kb0_init (fm0_init a w).2.2.1 (fm0_init a w).2.2.2 w.length) [] nq (0, am_L0 a 1, [], w, 0, 0) = some ((fm0_init a w).1, (fm0_init a w).2.1) := by
  rintro a w ⟨rfl, rfl⟩
  exact am_lf_ev re0_init
theorem rl0_init : ∀ (a : List am_V) (w : List am_C), pr0_init a w → a.length ≤ 1 := by
  rintro a w ⟨rfl, rfl⟩
  exact Nat.le_of_ble_eq_true rfl
theorem pa0_init : ∀ a w, pr0_init a w → ∃ q a', a = .inr (.inl q) :: a' := by
  rintro a w ⟨rfl, rfl⟩
  exact ⟨0, _, rfl⟩
set_option maxRecDepth 100000 in
set_option maxHeartbeats 4000000 in
theorem km0_init {l : Launch} {E : (Nat → Prop) → State → Prop} {D : va_G} {ou : Nat → Nat} {ca : Nat → ClassId} (hE : hg_E E ou) : hg_Met l E D ou ca hy0_init prog_2_method_1_code 1 none 2 pr0_init fm0_init := by
  refine am_met (B := kb0_init) (cuts := []) (nt := 5) (by decide +kernel) rfl rfl (hg_tys_ok ca) ?_ (by decide) rl0_init ?_ rn0_init
  · exact fun t ht => List.mem_cons_of_mem _ (hg_arr t ht)
  · intro a w hp ad p e R s m args below meth c hR X hEs hnm
    have hR1 : 2 ≤ R.frames ∧ 80 ≤ R.locals := by rw [hR]; exact ⟨Nat.le_refl _, Nat.le_refl _⟩
    have hN := hE.2.1 _ _ hEs
    have hnw : ∀ q ∈ ke0_init, am_NK s args hn_R0 (Cond.code hy0_init prog_2_method_1_code 1 none :: gw_all) hn_cl q.1 q.2.1 q.2.2 := am_allc (hg_nk X.2.2.2.2.1 rfl hn_in5 hn_ok5 (gw_mem 150 (by decide +kernel)) (gw_mem 151 (by decide +kernel)) (gw_mem 73 (by decide +kernel)) rfl kv5) (am_allc (hg_nk X.2.2.2.2.1 rfl hn_in1 hn_ok1 (gw_mem 187 (by decide +kernel)) (gw_mem 188 (by decide +kernel)) (gw_mem 74 (by decide +kernel)) rfl kv1) (am_all0))
    refine ⟨kd0_init_ok, fun index ci fi mode hq => kj0_ok X.2.2.2.2.1 hN.1 hnm (index, ci, fi, mode) (am_as_mem hq), fun index ci fs hq => hnw (index, ci, fs) (am_as_mem hq), fun x v hq => (am_no hq).elim, ?_, fun o t n f hq => (am_no hq).elim, rfl, rfl, by rw [hR]; exact Nat.le_refl _, by rw [hR]; exact Nat.le_refl _⟩
    intro pc sel n0 pre0 f0 hq
    have hz : ∀ q ∈ ki0_init, am_CK p l e R s m args below meth c D hn_cl (va_A (am_w ad ou ca w) s.heap.size) ou ca 1 q.1 q.2.2.1 q.2.2.2.1 q.2.2.2.2 := by
      refine am_allc (am_ck_O X (List.mem_cons_of_mem _ (gw_mem 149 (by decide +kernel))) (List.mem_cons_of_mem _ (gw_mem 98 (by decide +kernel))) (List.mem_cons_of_mem _ (gw_mem 99 (by decide +kernel))) ⟨Nat.le_trans (by decide) hR1.1, Nat.le_trans (by decide) hR1.2⟩ (kd0_init_ok (1, .invokespecial 3, 3) (List.mem_of_getElem? (i := 1) rfl))) (am_allc (am_ck_I (n := 0) X hEs hE.1 (km5_init hE) (hg_good (gw_mem 154 (by decide +kernel))) rfl (List.mem_cons_of_mem _ (gw_mem 73 (by decide +kernel))) (List.mem_cons_of_mem _ (gw_mem 152 (by decide +kernel))) (List.mem_cons_of_mem _ (gw_mem 153 (by decide +kernel))) rfl pa5_init (by decide +kernel) ⟨Nat.le_trans (by decide) hR1.1, Nat.le_trans (by decide) hR1.2⟩ (kd0_init_ok (9, .invokespecial 11, 3) (List.mem_of_getElem? (i := 5) rfl))) (am_allc (am_ck_IN (n := 0) (host := "HoleTemplates") X hEs hE.1 (km1_init hE) (hg_good (gw_mem 191 (by decide +kernel))) rfl (List.mem_cons_of_mem _ (gw_mem 74 (by decide +kernel))) (hN.1 _ (List.mem_of_getElem? (i := 7) rfl)) (List.mem_cons_of_mem _ (gw_mem 190 (by decide +kernel))) rfl pa1_init (by decide +kernel) ⟨Nat.le_trans (by decide) hR1.1, Nat.le_trans (by decide) hR1.2⟩ (kd0_init_ok (20, .invokespecial 20, 3) (List.mem_of_getElem? (i := 10) rfl))) (am_all0)))
    exact hz _ (am_as_mem hq)
