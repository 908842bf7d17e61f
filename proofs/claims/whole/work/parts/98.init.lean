theorem kj9_ok {s : State} {args : Array Value} {meth : Method} {x : Cond} (hts : ∀ w ∈ x :: gw_all, w.before args s = true) (hN : hg_Nw s) (hnm : meth.name = "<init>") : ∀ q ∈ kf9i, am_FK s args meth hn_R9 (x :: gw_all) hn_cl hn_ty q.1 q.2.1 q.2.2.1 q.2.2.2 :=
  am_allc (hg_fkI hts hnm rfl (by decide) hn_in9 hn_ok9 hn_nm9 rfl 264 (by decide +kernel) ⟨rfl, rfl⟩) (am_allc (hg_fkI hts hnm rfl (by decide) hn_in9 hn_ok9 hn_nm9 rfl 265 (by decide +kernel) ⟨rfl, rfl⟩) (am_allc (hg_fkI hts hnm rfl (by decide) hn_in9 hn_ok9 hn_nm9 rfl 266 (by decide +kernel) ⟨rfl, rfl⟩) (am_allc (hg_fkI hts hnm rfl (by decide) hn_in9 hn_ok9 hn_nm9 rfl 267 (by decide +kernel) ⟨rfl, rfl⟩) (am_allc (hg_fkI hts hnm rfl (by decide) hn_in9 hn_ok9 hn_nm9 rfl 268 (by decide +kernel) ⟨rfl, rfl⟩) (am_allc (hg_fkN (host := "HoleTemplates") hN rfl (by decide) hn_in6 hn_ok6 hn_nm6 rfl (by decide) 1 rfl (by decide)) (am_allc (hg_fkN (host := "HoleTemplates") hN rfl (by decide) hn_in0 hn_ok0 hn_nm0 rfl (by decide) 18 rfl (by decide)) (am_allc (hg_fkN (host := "HoleTemplates") hN rfl (by decide) hn_in0 hn_ok0 hn_nm0 rfl (by decide) 16 rfl (by decide)) (am_allc (hg_fkN (host := "HoleTemplates") hN rfl (by decide) hn_in0 hn_ok0 hn_nm0 rfl (by decide) 17 rfl (by decide)) (am_allc (hg_fkN (host := "HoleTemplates") hN rfl (by decide) hn_in0 hn_ok0 hn_nm0 rfl (by decide) 15 rfl (by decide)) (am_allc (hg_fkN (host := "HoleTemplates") hN rfl (by decide) hn_in8 hn_ok8 hn_nm8 rfl (by decide) 19 rfl (by decide)) (am_all0)))))))))))
theorem kv2 : ∀ (ad ou : Nat → Nat) (j : Nat), j < 4 → defaultValue (hn_y2 j) = vp_V (hn_d2.map (am_v ad ou)) j := by
  intro ad ou j hj
  match j, hj with
  | 0, _ => rfl
  | 1, _ => rfl
  | 2, _ => rfl
  | 3, _ => rfl
theorem kv0 : ∀ (ad ou : Nat → Nat) (j : Nat), j < 10 → defaultValue (hn_y0 j) = vp_V (hn_d0.map (am_v ad ou)) j := by
  intro ad ou j hj
  match j, hj with
  | 0, _ => rfl
  | 1, _ => rfl
  | 2, _ => rfl
  | 3, _ => rfl
  | 4, _ => rfl
  | 5, _ => rfl
  | 6, _ => rfl
  | 7, _ => rfl
  | 8, _ => rfl
  | 9, _ => rfl
theorem kv8 : ∀ (ad ou : Nat → Nat) (j : Nat), j < 1 → defaultValue (hn_y8 j) = vp_V (hn_d8.map (am_v ad ou)) j := by
  intro ad ou j hj
  match j, hj with
  | 0, _ => rfl
noncomputable def ki9_init : List (Nat × Option (List Nat) × Nat × (List am_V → List am_C → Prop) × am_M) := [(1, none, 1, prO_obj, fmO_obj), (11, some [1], 2, pr6_init, fm6_init), (25, some [3], 2, pr6_init, fm6_init), (36, some [5], 1, pr2_init, fm2_init), (47, some [10], 1, pr0_init, fm0_init), (58, some [24], 1, pr8_init, fm8_init)]
def ke9_init : List (Nat × Nat × List am_V) := [(7, 6, hn_d6), (21, 2, hn_d2), (28, 0, hn_d0), (35, 8, hn_d8)]
noncomputable def kb9_init : am_B := (kd9_init, am_as kf9i, hn_ty, am_as ke9_init, fun _ => none, am_as ki9_init, fun _ => none, 5, 1, none)
abbrev pr9_init : List am_V → List am_C → Prop := fun a w => a = [.inr (.inl 0)] ∧ w = [.inr (9, [.inr (.inr 0), .inr (.inr 0), .inr (.inr 0), .inr (.inr 0), .inr (.inr 0)])]
def fm9_init : am_M := fun _ _ => (none, [.inr (9, [.inr (.inl 1), .inr (.inl 3), .inr (.inl 5), .inr (.inl 10), .inr (.inl 24)]), .inr (6, [.inr (.inl 2), .inl 0, .inl 0]), .inl (1, 40, fun _ => 0), .inr (6, [.inr (.inl 4), .inl 0, .inl 0]), .inl (1, 240, fun _ => 0), .inr (2, [.inr (.inl 6), .inr (.inl 7), .inr (.inl 8), .inr (.inl 9)]), .inl (1, 1280, fun _ => 0), .inl (0, 32, fun _ => 0), .inl (0, 8, fun _ => 0), .inl (0, 8, hi2_al), .inr (0, [.inr (.inl 11), .inr (.inl 19), .inr (.inl 20), .inr (.inl 21), .inr (.inl 22), .inr (.inl 23), .inl 0, .inl 0, .inl (-1), .inl 0]), .inr (5, [.inr (.inl 12), .inr (.inl 13), .inr (.inl 14), .inr (.inl 15), .inr (.inl 16), .inr (.inl 17), .inr (.inl 18), .inl 0, .inl 0]), .inl (0, 240, fun _ => 0), .inl (1, 240, fun _ => 0), .inl (0, 240, fun _ => 0), .inl (0, 240, fun _ => 0), .inl (0, 240, fun _ => 0), .inl (0, 240, fun _ => 0), .inl (0, 240, fun _ => 0), .inr (1, [.inl 0, .inl 0, .inl 0, .inl 0, .inl 0]), .inl (0, 240, fun _ => 0), .inl (0, 6, fun _ => 0), .inl (0, 6, fun _ => 0), .inl (0, 6, fun _ => 0), .inr (8, [.inr (.inl 25)]), .inr (6, [.inr (.inl 26), .inl 0, .inl 0]), .inl (1, 1000, fun _ => 0)], 26, 4584)
theorem fe9_init : fm9_init [.inr (.inl 0)] [.inr (9, [.inr (.inr 0), .inr (.inr 0), .inr (.inr 0), .inr (.inr 0), .inr (.inr 0)])] = (none, [.inr (9, [.inr (.inl 1), .inr (.inl 3), .inr (.inl 5), .inr (.inl 10), .inr (.inl 24)]), .inr (6, [.inr (.inl 2), .inl 0, .inl 0]), .inl (1, 40, fun _ => 0), .inr (6, [.inr (.inl 4), .inl 0, .inl 0]), .inl (1, 240, fun _ => 0), .inr (2, [.inr (.inl 6), .inr (.inl 7), .inr (.inl 8), .inr (.inl 9)]), .inl (1, 1280, fun _ => 0), .inl (0, 32, fun _ => 0), .inl (0, 8, fun _ => 0), .inl (0, 8, hi2_al), .inr (0, [.inr (.inl 11), .inr (.inl 19), .inr (.inl 20), .inr (.inl 21), .inr (.inl 22), .inr (.inl 23), .inl 0, .inl 0, .inl (-1), .inl 0]), .inr (5, [.inr (.inl 12), .inr (.inl 13), .inr (.inl 14), .inr (.inl 15), .inr (.inl 16), .inr (.inl 17), .inr (.inl 18), .inl 0, .inl 0]), .inl (0, 240, fun _ => 0), .inl (1, 240, fun _ => 0), .inl (0, 240, fun _ => 0), .inl (0, 240, fun _ => 0), .inl (0, 240, fun _ => 0), .inl (0, 240, fun _ => 0), .inl (0, 240, fun _ => 0), .inr (1, [.inl 0, .inl 0, .inl 0, .inl 0, .inl 0]), .inl (0, 240, fun _ => 0), .inl (0, 6, fun _ => 0), .inl (0, 6, fun _ => 0), .inl (0, 6, fun _ => 0), .inr (8, [.inr (.inl 25)]), .inr (6, [.inr (.inl 26), .inl 0, .inl 0]), .inl (1, 1000, fun _ => 0)], 26, 4584) := rfl
set_option maxRecDepth 100000 in
set_option maxHeartbeats 4000000 in
theorem re9_init : am_lf (am_mk kb9_init 26 4584 1) [] (0, am_L0 [.inr (.inl 0)] 1, [], [.inr (9, [.inr (.inr 0), .inr (.inr 0), .inr (.inr 0), .inr (.inr 0), .inr (.inr 0)])], 0, 0) = some (none, [.inr (9, [.inr (.inl 1), .inr (.inl 3), .inr (.inl 5), .inr (.inl 10), .inr (.inl 24)]), .inr (6, [.inr (.inl 2), .inl 0, .inl 0]), .inl (1, 40, fun _ => 0), .inr (6, [.inr (.inl 4), .inl 0, .inl 0]), .inl (1, 240, fun _ => 0), .inr (2, [.inr (.inl 6), .inr (.inl 7), .inr (.inl 8), .inr (.inl 9)]), .inl (1, 1280, fun _ => 0), .inl (0, 32, fun _ => 0), .inl (0, 8, fun _ => 0), .inl (0, 8, hi2_al), .inr (0, [.inr (.inl 11), .inr (.inl 19), .inr (.inl 20), .inr (.inl 21), .inr (.inl 22), .inr (.inl 23), .inl 0, .inl 0, .inl (-1), .inl 0]), .inr (5, [.inr (.inl 12), .inr (.inl 13), .inr (.inl 14), .inr (.inl 15), .inr (.inl 16), .inr (.inl 17), .inr (.inl 18), .inl 0, .inl 0]), .inl (0, 240, fun _ => 0), .inl (1, 240, fun _ => 0), .inl (0, 240, fun _ => 0), .inl (0, 240, fun _ => 0), .inl (0, 240, fun _ => 0), .inl (0, 240, fun _ => 0), .inl (0, 240, fun _ => 0), .inr (1, [.inl 0, .inl 0, .inl 0, .inl 0, .inl 0]), .inl (0, 240, fun _ => 0), .inl (0, 6, fun _ => 0), .inl (0, 6, fun _ => 0), .inl (0, 6, fun _ => 0), .inr (8, [.inr (.inl 25)]), .inr (6, [.inr (.inl 26), .inl 0, .inl 0]), .inl (1, 1000, fun _ => 0)]) := by
  refine am_lf_eq ?_
  generalize am_lf (am_mk kb9_init 26 4584 1) [] = kt
  refine am_cx (pre := prO_obj) (f := fmO_obj) (r := (none, [.inr (9, [.inr (.inr 0), .inr (.inr 0), .inr (.inr 0), .inr (.inr 0), .inr (.inr 0)])], 0, 0)) ?_ ?_ ?_ ?_
  · exact ⟨0, rfl⟩
  · rfl
  · rfl
  refine am_cyG (pre := pr6_init) (f := fm6_init) (a' := [.inr (.inl 0), .inl 40]) (wc := [.inr (6, [.inr (.inr 0), .inl 0, .inl 0])]) (w' := [.inr (9, [.inr (.inr 0), .inr (.inr 0), .inr (.inr 0), .inr (.inr 0), .inr (.inr 0)]), .inr (6, [.inr (.inl 2), .inl 0, .inl 0]), .inl (1, 40, fun _ => 0)]) (r := (none, [.inr (6, [.inr (.inl 1), .inl 0, .inl 0]), .inl (1, 40, fun _ => 0)], 1, 40)) ?_ ?_ ?_ ?_ ?_ ?_ ?_ ?_ ?_
  · rfl
  · rfl
  · rfl
  · rfl
  · exact ⟨40, rfl, rfl, by decide⟩
  · exact fe6_init 40
  · rfl
  · rfl
  refine am_sp (w' := [.inr (9, [.inr (.inl 1), .inr (.inr 0), .inr (.inr 0), .inr (.inr 0), .inr (.inr 0)]), .inr (6, [.inr (.inl 2), .inl 0, .inl 0]), .inl (1, 40, fun _ => 0)]) rfl ?_
  refine am_cyG (pre := pr6_init) (f := fm6_init) (a' := [.inr (.inl 0), .inl 240]) (wc := [.inr (6, [.inr (.inr 0), .inl 0, .inl 0])]) (w' := [.inr (9, [.inr (.inl 1), .inr (.inr 0), .inr (.inr 0), .inr (.inr 0), .inr (.inr 0)]), .inr (6, [.inr (.inl 2), .inl 0, .inl 0]), .inl (1, 40, fun _ => 0), .inr (6, [.inr (.inl 4), .inl 0, .inl 0]), .inl (1, 240, fun _ => 0)]) (r := (none, [.inr (6, [.inr (.inl 1), .inl 0, .inl 0]), .inl (1, 240, fun _ => 0)], 1, 240)) ?_ ?_ ?_ ?_ ?_ ?_ ?_ ?_ ?_
  · rfl
  · rfl
  · rfl
  · rfl
  · exact ⟨240, rfl, rfl, by decide⟩
  · exact fe6_init 240
  · rfl
  · rfl
  refine am_sp (w' := [.inr (9, [.inr (.inl 1), .inr (.inl 3), .inr (.inr 0), .inr (.inr 0), .inr (.inr 0)]), .inr (6, [.inr (.inl 2), .inl 0, .inl 0]), .inl (1, 40, fun _ => 0), .inr (6, [.inr (.inl 4), .inl 0, .inl 0]), .inl (1, 240, fun _ => 0)]) rfl ?_
  refine am_cyG (pre := pr2_init) (f := fm2_init) (a' := [.inr (.inl 0)]) (wc := [.inr (2, [.inr (.inr 0), .inr (.inr 0), .inr (.inr 0), .inr (.inr 0)])]) (w' := [.inr (9, [.inr (.inl 1), .inr (.inl 3), .inr (.inr 0), .inr (.inr 0), .inr (.inr 0)]), .inr (6, [.inr (.inl 2), .inl 0, .inl 0]), .inl (1, 40, fun _ => 0), .inr (6, [.inr (.inl 4), .inl 0, .inl 0]), .inl (1, 240, fun _ => 0), .inr (2, [.inr (.inl 6), .inr (.inl 7), .inr (.inl 8), .inr (.inl 9)]), .inl (1, 1280, fun _ => 0), .inl (0, 32, fun _ => 0), .inl (0, 8, fun _ => 0), .inl (0, 8, hi2_al)]) (r := (none, [.inr (2, [.inr (.inl 1), .inr (.inl 2), .inr (.inl 3), .inr (.inl 4)]), .inl (1, 1280, fun _ => 0), .inl (0, 32, fun _ => 0), .inl (0, 8, fun _ => 0), .inl (0, 8, hi2_al)], 4, 1328)) ?_ ?_ ?_ ?_ ?_ ?_ ?_ ?_ ?_
  · rfl
  · rfl
  · rfl
  · rfl
  · exact ⟨rfl, rfl⟩
  · exact fe2_init
  · rfl
  · rfl
  refine am_sp (w' := [.inr (9, [.inr (.inl 1), .inr (.inl 3), .inr (.inl 5), .inr (.inr 0), .inr (.inr 0)]), .inr (6, [.inr (.inl 2), .inl 0, .inl 0]), .inl (1, 40, fun _ => 0), .inr (6, [.inr (.inl 4), .inl 0, .inl 0]), .inl (1, 240, fun _ => 0), .inr (2, [.inr (.inl 6), .inr (.inl 7), .inr (.inl 8), .inr (.inl 9)]), .inl (1, 1280, fun _ => 0), .inl (0, 32, fun _ => 0), .inl (0, 8, fun _ => 0), .inl (0, 8, hi2_al)]) rfl ?_
  refine am_cyG (pre := pr0_init) (f := fm0_init) (a' := [.inr (.inl 0)]) (wc := [.inr (0, [.inr (.inr 0), .inr (.inr 0), .inr (.inr 0), .inr (.inr 0), .inr (.inr 0), .inr (.inr 0), .inl 0, .inl 0, .inl 0, .inl 0])]) (w' := [.inr (9, [.inr (.inl 1), .inr (.inl 3), .inr (.inl 5), .inr (.inr 0), .inr (.inr 0)]), .inr (6, [.inr (.inl 2), .inl 0, .inl 0]), .inl (1, 40, fun _ => 0), .inr (6, [.inr (.inl 4), .inl 0, .inl 0]), .inl (1, 240, fun _ => 0), .inr (2, [.inr (.inl 6), .inr (.inl 7), .inr (.inl 8), .inr (.inl 9)]), .inl (1, 1280, fun _ => 0), .inl (0, 32, fun _ => 0), .inl (0, 8, fun _ => 0), .inl (0, 8, hi2_al), .inr (0, [.inr (.inl 11), .inr (.inl 19), .inr (.inl 20), .inr (.inl 21), .inr (.inl 22), .inr (.inl 23), .inl 0, .inl 0, .inl (-1), .inl 0]), .inr (5, [.inr (.inl 12), .inr (.inl 13), .inr (.inl 14), .inr (.inl 15), .inr (.inl 16), .inr (.inl 17), .inr (.inl 18), .inl 0, .inl 0]), .inl (0, 240, fun _ => 0), .inl (1, 240, fun _ => 0), .inl (0, 240, fun _ => 0), .inl (0, 240, fun _ => 0), .inl (0, 240, fun _ => 0), .inl (0, 240, fun _ => 0), .inl (0, 240, fun _ => 0), .inr (1, [.inl 0, .inl 0, .inl 0, .inl 0, .inl 0]), .inl (0, 240, fun _ => 0), .inl (0, 6, fun _ => 0), .inl (0, 6, fun _ => 0), .inl (0, 6, fun _ => 0)]) (r := (none, [.inr (0, [.inr (.inl 1), .inr (.inl 9), .inr (.inl 10), .inr (.inl 11), .inr (.inl 12), .inr (.inl 13), .inl 0, .inl 0, .inl (-1), .inl 0]), .inr (5, [.inr (.inl 2), .inr (.inl 3), .inr (.inl 4), .inr (.inl 5), .inr (.inl 6), .inr (.inl 7), .inr (.inl 8), .inl 0, .inl 0]), .inl (0, 240, fun _ => 0), .inl (1, 240, fun _ => 0), .inl (0, 240, fun _ => 0), .inl (0, 240, fun _ => 0), .inl (0, 240, fun _ => 0), .inl (0, 240, fun _ => 0), .inl (0, 240, fun _ => 0), .inr (1, [.inl 0, .inl 0, .inl 0, .inl 0, .inl 0]), .inl (0, 240, fun _ => 0), .inl (0, 6, fun _ => 0), .inl (0, 6, fun _ => 0), .inl (0, 6, fun _ => 0)], 13, 1952)) ?_ ?_ ?_ ?_ ?_ ?_ ?_ ?_ ?_
  · rfl
  · rfl
  · rfl
  · rfl
  · exact ⟨rfl, rfl⟩
  · exact fe0_init
  · rfl
  · rfl
  refine am_sp (w' := [.inr (9, [.inr (.inl 1), .inr (.inl 3), .inr (.inl 5), .inr (.inl 10), .inr (.inr 0)]), .inr (6, [.inr (.inl 2), .inl 0, .inl 0]), .inl (1, 40, fun _ => 0), .inr (6, [.inr (.inl 4), .inl 0, .inl 0]), .inl (1, 240, fun _ => 0), .inr (2, [.inr (.inl 6), .inr (.inl 7), .inr (.inl 8), .inr (.inl 9)]), .inl (1, 1280, fun _ => 0), .inl (0, 32, fun _ => 0), .inl (0, 8, fun _ => 0), .inl (0, 8, hi2_al), .inr (0, [.inr (.inl 11), .inr (.inl 19), .inr (.inl 20), .inr (.inl 21), .inr (.inl 22), .inr (.inl 23), .inl 0, .inl 0, .inl (-1), .inl 0]), .inr (5, [.inr (.inl 12), .inr (.inl 13), .inr (.inl 14), .inr (.inl 15), .inr (.inl 16), .inr (.inl 17), .inr (.inl 18), .inl 0, .inl 0]), .inl (0, 240, fun _ => 0), .inl (1, 240, fun _ => 0), .inl (0, 240, fun _ => 0), .inl (0, 240, fun _ => 0), .inl (0, 240, fun _ => 0), .inl (0, 240, fun _ => 0), .inl (0, 240, fun _ => 0), .inr (1, [.inl 0, .inl 0, .inl 0, .inl 0, .inl 0]), .inl (0, 240, fun _ => 0), .inl (0, 6, fun _ => 0), .inl (0, 6, fun _ => 0), .inl (0, 6, fun _ => 0)]) rfl ?_
  refine am_cyG (pre := pr8_init) (f := fm8_init) (a' := [.inr (.inl 0)]) (wc := [.inr (8, [.inr (.inr 0)])]) (w' := [.inr (9, [.inr (.inl 1), .inr (.inl 3), .inr (.inl 5), .inr (.inl 10), .inr (.inr 0)]), .inr (6, [.inr (.inl 2), .inl 0, .inl 0]), .inl (1, 40, fun _ => 0), .inr (6, [.inr (.inl 4), .inl 0, .inl 0]), .inl (1, 240, fun _ => 0), .inr (2, [.inr (.inl 6), .inr (.inl 7), .inr (.inl 8), .inr (.inl 9)]), .inl (1, 1280, fun _ => 0), .inl (0, 32, fun _ => 0), .inl (0, 8, fun _ => 0), .inl (0, 8, hi2_al), .inr (0, [.inr (.inl 11), .inr (.inl 19), .inr (.inl 20), .inr (.inl 21), .inr (.inl 22), .inr (.inl 23), .inl 0, .inl 0, .inl (-1), .inl 0]), .inr (5, [.inr (.inl 12), .inr (.inl 13), .inr (.inl 14), .inr (.inl 15), .inr (.inl 16), .inr (.inl 17), .inr (.inl 18), .inl 0, .inl 0]), .inl (0, 240, fun _ => 0), .inl (1, 240, fun _ => 0), .inl (0, 240, fun _ => 0), .inl (0, 240, fun _ => 0), .inl (0, 240, fun _ => 0), .inl (0, 240, fun _ => 0), .inl (0, 240, fun _ => 0), .inr (1, [.inl 0, .inl 0, .inl 0, .inl 0, .inl 0]), .inl (0, 240, fun _ => 0), .inl (0, 6, fun _ => 0), .inl (0, 6, fun _ => 0), .inl (0, 6, fun _ => 0), .inr (8, [.inr (.inl 25)]), .inr (6, [.inr (.inl 26), .inl 0, .inl 0]), .inl (1, 1000, fun _ => 0)]) (r := (none, [.inr (8, [.inr (.inl 1)]), .inr (6, [.inr (.inl 2), .inl 0, .inl 0]), .inl (1, 1000, fun _ => 0)], 2, 1003)) ?_ ?_ ?_ ?_ ?_ ?_ ?_ ?_ ?_
  · rfl
  · rfl
  · rfl
  · rfl
  · exact ⟨rfl, rfl⟩
  · exact fe8_init
  · rfl
  · rfl
  refine am_sp (w' := [.inr (9, [.inr (.inl 1), .inr (.inl 3), .inr (.inl 5), .inr (.inl 10), .inr (.inl 24)]), .inr (6, [.inr (.inl 2), .inl 0, .inl 0]), .inl (1, 40, fun _ => 0), .inr (6, [.inr (.inl 4), .inl 0, .inl 0]), .inl (1, 240, fun _ => 0), .inr (2, [.inr (.inl 6), .inr (.inl 7), .inr (.inl 8), .inr (.inl 9)]), .inl (1, 1280, fun _ => 0), .inl (0, 32, fun _ => 0), .inl (0, 8, fun _ => 0), .inl (0, 8, hi2_al), .inr (0, [.inr (.inl 11), .inr (.inl 19), .inr (.inl 20), .inr (.inl 21), .inr (.inl 22), .inr (.inl 23), .inl 0, .inl 0, .inl (-1), .inl 0]), .inr (5, [.inr (.inl 12), .inr (.inl 13), .inr (.inl 14), .inr (.inl 15), .inr (.inl 16), .inr (.inl 17), .inr (.inl 18), .inl 0, .inl 0]), .inl (0, 240, fun _ => 0), .inl (1, 240, fun _ => 0), .inl (0, 240, fun _ => 0), .inl (0, 240, fun _ => 0), .inl (0, 240, fun _ => 0), .inl (0, 240, fun _ => 0), .inl (0, 240, fun _ => 0), .inr (1, [.inl 0, .inl 0, .inl 0, .inl 0, .inl 0]), .inl (0, 240, fun _ => 0), .inl (0, 6, fun _ => 0), .inl (0, 6, fun _ => 0), .inl (0, 6, fun _ => 0), .inr (8, [.inr (.inl 25)]), .inr (6, [.inr (.inl 26), .inl 0, .inl 0]), .inl (1, 1000, fun _ => 0)]) rfl ?_
  rfl
set_option maxRecDepth 100000 in
set_option maxHeartbeats 4000000 in
theorem rn9_init : ∀ (a : List am_V) (w : List am_C), pr9_init a w → ∃ nq, am_ev (am_mk kb9_init (fm9_init a w).2.2.1 (fm9_init a w).2.2.2 w.length) [] nq (0, am_L0 a 1, [], w, 0, 0) = some ((fm9_init a w).1, (fm9_init a w).2.1) := by
  rintro a w ⟨rfl, rfl⟩
  exact am_lf_ev re9_init
theorem rl9_init : ∀ (a : List am_V) (w : List am_C), pr9_init a w → a.length ≤ 1 := by
  rintro a w ⟨rfl, rfl⟩
  exact Nat.le_of_ble_eq_true rfl
theorem pa9_init : ∀ a w, pr9_init a w → ∃ q a', a = .inr (.inl q) :: a' := by
  rintro a w ⟨rfl, rfl⟩
  exact ⟨0, _, rfl⟩
set_option maxRecDepth 100000 in
set_option maxHeartbeats 4000000 in
theorem km9_init {l : Launch} {E : (Nat → Prop) → State → Prop} {D : va_G} {ou : Nat → Nat} {ca : Nat → ClassId} (hE : hg_E E ou) : hg_Met l E D ou ca hy9_init prog_1_method_1_code 1 none 3 pr9_init fm9_init := by
  refine am_met (B := kb9_init) (cuts := []) (nt := 5) (by decide +kernel) rfl rfl (hg_tys_ok ca) ?_ (by decide) rl9_init ?_ rn9_init
  · exact fun t ht => List.mem_cons_of_mem _ (hg_arr t ht)
  · intro a w hp ad p e R s m args below meth c hR X hEs hnm
    have hR1 : 3 ≤ R.frames ∧ 120 ≤ R.locals := by rw [hR]; exact ⟨Nat.le_refl _, Nat.le_refl _⟩
    have hN := hE.2.1 _ _ hEs
    have hnw : ∀ q ∈ ke9_init, am_NK s args hn_R9 (Cond.code hy9_init prog_1_method_1_code 1 none :: gw_all) hn_cl q.1 q.2.1 q.2.2 := am_allc (hg_nk X.2.2.2.2.1 rfl hn_in6 hn_ok6 (gw_mem 100 (by decide +kernel)) (gw_mem 101 (by decide +kernel)) (gw_mem 69 (by decide +kernel)) rfl kv6) (am_allc (hg_nk X.2.2.2.2.1 rfl hn_in2 hn_ok2 (gw_mem 124 (by decide +kernel)) (gw_mem 125 (by decide +kernel)) (gw_mem 71 (by decide +kernel)) rfl kv2) (am_allc (hg_nk X.2.2.2.2.1 rfl hn_in0 hn_ok0 (gw_mem 144 (by decide +kernel)) (gw_mem 145 (by decide +kernel)) (gw_mem 72 (by decide +kernel)) rfl kv0) (am_allc (hg_nk X.2.2.2.2.1 rfl hn_in8 hn_ok8 (gw_mem 251 (by decide +kernel)) (gw_mem 252 (by decide +kernel)) (gw_mem 75 (by decide +kernel)) rfl kv8) (am_all0))))
    refine ⟨kd9_init_ok, fun index ci fi mode hq => kj9_ok X.2.2.2.2.1 hN.1 hnm (index, ci, fi, mode) (am_as_mem hq), fun index ci fs hq => hnw (index, ci, fs) (am_as_mem hq), fun x v hq => (am_no hq).elim, ?_, fun o t n f hq => (am_no hq).elim, rfl, rfl, by rw [hR]; exact Nat.le_refl _, by rw [hR]; exact Nat.le_refl _⟩
    intro pc sel n0 pre0 f0 hq
    have hz : ∀ q ∈ ki9_init, am_CK p l e R s m args below meth c D hn_cl (va_A (am_w ad ou ca w) s.heap.size) ou ca 1 q.1 q.2.2.1 q.2.2.2.1 q.2.2.2.2 := by
      refine am_allc (am_ck_O X (List.mem_cons_of_mem _ (gw_mem 97 (by decide +kernel))) (List.mem_cons_of_mem _ (gw_mem 98 (by decide +kernel))) (List.mem_cons_of_mem _ (gw_mem 99 (by decide +kernel))) ⟨Nat.le_trans (by decide) hR1.1, Nat.le_trans (by decide) hR1.2⟩ (kd9_init_ok (1, .invokespecial 1, 3) (List.mem_of_getElem? (i := 1) rfl))) (am_allc (am_ck_I (n := 1) X hEs hE.1 (km6_init hE) (hg_good (gw_mem 104 (by decide +kernel))) rfl (List.mem_cons_of_mem _ (gw_mem 69 (by decide +kernel))) (List.mem_cons_of_mem _ (gw_mem 102 (by decide +kernel))) (List.mem_cons_of_mem _ (gw_mem 103 (by decide +kernel))) rfl pa6_init (by decide +kernel) ⟨Nat.le_trans (by decide) hR1.1, Nat.le_trans (by decide) hR1.2⟩ (kd9_init_ok (11, .invokespecial 11, 3) (List.mem_of_getElem? (i := 6) rfl))) (am_allc (am_ck_I (n := 1) X hEs hE.1 (km6_init hE) (hg_good (gw_mem 104 (by decide +kernel))) rfl (List.mem_cons_of_mem _ (gw_mem 69 (by decide +kernel))) (List.mem_cons_of_mem _ (gw_mem 102 (by decide +kernel))) (List.mem_cons_of_mem _ (gw_mem 103 (by decide +kernel))) rfl pa6_init (by decide +kernel) ⟨Nat.le_trans (by decide) hR1.1, Nat.le_trans (by decide) hR1.2⟩ (kd9_init_ok (25, .invokespecial 11, 3) (List.mem_of_getElem? (i := 12) rfl))) (am_allc (am_ck_I (n := 0) X hEs hE.1 (km2_init hE) (hg_good (gw_mem 128 (by decide +kernel))) rfl (List.mem_cons_of_mem _ (gw_mem 71 (by decide +kernel))) (List.mem_cons_of_mem _ (gw_mem 126 (by decide +kernel))) (List.mem_cons_of_mem _ (gw_mem 127 (by decide +kernel))) rfl pa2_init (by decide +kernel) ⟨Nat.le_trans (by decide) hR1.1, Nat.le_trans (by decide) hR1.2⟩ (kd9_init_ok (36, .invokespecial 23, 3) (List.mem_of_getElem? (i := 17) rfl))) (am_allc (am_ck_I (n := 0) X hEs hE.1 (km0_init hE) (hg_good (gw_mem 148 (by decide +kernel))) rfl (List.mem_cons_of_mem _ (gw_mem 72 (by decide +kernel))) (List.mem_cons_of_mem _ (gw_mem 146 (by decide +kernel))) (List.mem_cons_of_mem _ (gw_mem 147 (by decide +kernel))) rfl pa0_init (by decide +kernel) ⟨Nat.le_trans (by decide) hR1.1, Nat.le_trans (by decide) hR1.2⟩ (kd9_init_ok (47, .invokespecial 30, 3) (List.mem_of_getElem? (i := 22) rfl))) (am_allc (am_ck_I (n := 0) X hEs hE.1 (km8_init hE) (hg_good (gw_mem 255 (by decide +kernel))) rfl (List.mem_cons_of_mem _ (gw_mem 75 (by decide +kernel))) (List.mem_cons_of_mem _ (gw_mem 253 (by decide +kernel))) (List.mem_cons_of_mem _ (gw_mem 254 (by decide +kernel))) rfl pa8_init (by decide +kernel) ⟨Nat.le_trans (by decide) hR1.1, Nat.le_trans (by decide) hR1.2⟩ (kd9_init_ok (58, .invokespecial 37, 3) (List.mem_of_getElem? (i := 27) rfl))) (am_all0))))))
    exact hz _ (am_as_mem hq)
