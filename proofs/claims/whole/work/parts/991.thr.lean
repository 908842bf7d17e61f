/-! the throwing roads: the machine comes to the new of the exception -/
noncomputable def am_kT (tpc : Nat) (st : am_S) : Option am_Z := match st with
  | (pc, _, [], w, k, j) => bif pc == tpc && (k == 0 && j == 0) then some (none, w) else none
  | _ => none
noncomputable def am_evT (T : am_T) (tpc : Nat) (st : am_S) : Option am_Z := am_go T [tpc] 400 st (am_kT tpc)
def wt9_add_21 (r : qt6) (t : qt6) (m : qt2) (y : qt0) (x : qt5) (c : qt1) (u : qt6) : Prop := (¬ (((qg6_length t) + (qg6_length r)) ≤ (240 : Int32)))
set_option maxRecDepth 100000 in
set_option maxHeartbeats 4000000 in
theorem rt9_add_21 (r : qt6) (t : qt6) (m : qt2) (y : qt0) (x : qt5) (c : qt1) (u : qt6) (hp : wt9_add_21 r t m y x c u) : am_evT (am_mk kb9_add 0 0 27) 21 (0, am_L0 [.inr (.inl 0)] 2, [], (kw_H r t m y x c u), 0, 0) = some (none, (kw_H r t m y x c u)) := by
  unfold wt9_add_21 at hp
  unfold am_evT
  have hk : ∀ (L : List (Option am_V)) (w : List am_C), am_kT 21 (21, L, [], w, 0, 0) = some (none, w) := fun _ _ => rfl
  generalize am_kT 21 = kt at hk ⊢
  refine am_cn (c := ((qg6_length t) + (qg6_length r)) ≤ (240 : Int32)) hp ?_
  exact hk _ _
def wt9_compile_14 (r : qt6) (t : qt6) (m : qt2) (y : qt0) (x : qt5) (c : qt1) (u : qt6) : Prop := ((wp0_reads y x c t) ∧ ((fn0_reads y x c t).1 = 0))
set_option maxRecDepth 100000 in
set_option maxHeartbeats 4000000 in
theorem rt9_compile_14 (r : qt6) (t : qt6) (m : qt2) (y : qt0) (x : qt5) (c : qt1) (u : qt6) (hp : wt9_compile_14 r t m y x c u) : am_evT (am_mk kb9_compile 0 0 27) 14 (0, am_L0 [.inr (.inl 0)] 1, [], (kw_H r t m y x c u), 0, 0) = some (none, (kw_H r t m ((fn0_reads y x c t).2.1) ((fn0_reads y x c t).2.2.1) ((fn0_reads y x c t).2.2.2) u)) := by
  unfold wt9_compile_14 at hp
  unfold am_evT
  have hk : ∀ (L : List (Option am_V)) (w : List am_C), am_kT 14 (14, L, [], w, 0, 0) = some (none, w) := fun _ _ => rfl
  generalize am_kT 14 = kt at hk ⊢
  refine am_cy (pre := pr0_reads) (f := fm0_reads) (a' := [.inr (.inl 0), .inr (.inl 14)]) (wc := (kw_PT y x c t)) (w' := (kw_H r t m ((fn0_reads y x c t).2.1) ((fn0_reads y x c t).2.2.1) ((fn0_reads y x c t).2.2.2) u)) (r := (some (.inl ((fn0_reads y x c t).1)), (kw_PT ((fn0_reads y x c t).2.1) ((fn0_reads y x c t).2.2.1) ((fn0_reads y x c t).2.2.2) t), 0, 0)) ?_ ?_ ?_ ?_ ?_ ?_ ?_ ?_ ?_ ?_
  · exact ks_H_PT_4_5_6_2_o r t m y x c u
  · rfl
  · rfl
  · exact ks_H_PT_4_5_6_2_s r t m y x c u
  · exact ⟨y, x, c, t, rfl, rfl, hp.1⟩
  · exact fe0_reads y x c t
  · exact kwl_PT ((fn0_reads y x c t).2.1) ((fn0_reads y x c t).2.2.1) ((fn0_reads y x c t).2.2.2) t
  · rfl
  · exact ks_H_PT_4_5_6_2_m r t m y x c u ((fn0_reads y x c t).2.1) ((fn0_reads y x c t).2.2.1) ((fn0_reads y x c t).2.2.2) t
  refine am_ci (c := (fn0_reads y x c t).1 = 0) hp.2 ?_
  exact hk _ _
def wt9_item_11 (r : qt6) (t : qt6) (m : qt2) (y : qt0) (x : qt5) (c : qt1) (u : qt6) (p0 : Int32) : Prop := ((wp2_isVariable m p0) ∧ ((fn2_isVariable m p0) = 0))
set_option maxRecDepth 100000 in
set_option maxHeartbeats 4000000 in
theorem rt9_item_11 (r : qt6) (t : qt6) (m : qt2) (y : qt0) (x : qt5) (c : qt1) (u : qt6) (p0 : Int32) (hp : wt9_item_11 r t m y x c u p0) : am_evT (am_mk kb9_item 0 0 27) 11 (0, am_L0 [.inr (.inl 0), .inl p0] 2, [], (kw_H r t m y x c u), 0, 0) = some (none, (kw_H r t m y x c u)) := by
  unfold wt9_item_11 at hp
  unfold am_evT
  have hk : ∀ (L : List (Option am_V)) (w : List am_C), am_kT 11 (11, L, [], w, 0, 0) = some (none, w) := fun _ _ => rfl
  generalize am_kT 11 = kt at hk ⊢
  refine am_cy (pre := pr2_isVariable) (f := fm2_isVariable) (a' := [.inr (.inl 0), .inl p0]) (wc := (kw_I m)) (w' := (kw_H r t m y x c u)) (r := (some (.inl (fn2_isVariable m p0)), (kw_I m), 0, 0)) ?_ ?_ ?_ ?_ ?_ ?_ ?_ ?_ ?_ ?_
  · exact ks_H_I_3_o r t m y x c u
  · rfl
  · rfl
  · exact ks_H_I_3_s r t m y x c u
  · exact ⟨m, p0, rfl, rfl, hp.1⟩
  · exact fe2_isVariable m p0
  · exact kwl_I m
  · rfl
  · exact ks_H_I_3_m r t m y x c u m
  refine am_ci (c := (fn2_isVariable m p0) = 0) hp.2 ?_
  exact hk _ _
def wt9_item_36 (r : qt6) (t : qt6) (m : qt2) (y : qt0) (x : qt5) (c : qt1) (u : qt6) (p0 : Int32) : Prop := ((wp2_isVariable m p0) ∧ (¬ ((fn2_isVariable m p0) = 0) ∧ ((wp2_keep m r p0) ∧ ((fn2_keep m r p0).1 = 0))))
set_option maxRecDepth 100000 in
set_option maxHeartbeats 4000000 in
theorem rt9_item_36 (r : qt6) (t : qt6) (m : qt2) (y : qt0) (x : qt5) (c : qt1) (u : qt6) (p0 : Int32) (hp : wt9_item_36 r t m y x c u p0) : am_evT (am_mk kb9_item 0 0 27) 36 (0, am_L0 [.inr (.inl 0), .inl p0] 2, [], (kw_H r t m y x c u), 0, 0) = some (none, (kw_H r t ((fn2_keep m r p0).2) y x c u)) := by
  unfold wt9_item_36 at hp
  unfold am_evT
  have hk : ∀ (L : List (Option am_V)) (w : List am_C), am_kT 36 (36, L, [], w, 0, 0) = some (none, w) := fun _ _ => rfl
  generalize am_kT 36 = kt at hk ⊢
  refine am_cy (pre := pr2_isVariable) (f := fm2_isVariable) (a' := [.inr (.inl 0), .inl p0]) (wc := (kw_I m)) (w' := (kw_H r t m y x c u)) (r := (some (.inl (fn2_isVariable m p0)), (kw_I m), 0, 0)) ?_ ?_ ?_ ?_ ?_ ?_ ?_ ?_ ?_ ?_
  · exact ks_H_I_3_o r t m y x c u
  · rfl
  · rfl
  · exact ks_H_I_3_s r t m y x c u
  · exact ⟨m, p0, rfl, rfl, hp.1⟩
  · exact fe2_isVariable m p0
  · exact kwl_I m
  · rfl
  · exact ks_H_I_3_m r t m y x c u m
  refine am_cn (c := (fn2_isVariable m p0) = 0) hp.2.1 ?_
  refine am_cy (pre := pr2_keep) (f := fm2_keep) (a' := [.inr (.inl 0), .inl p0, .inr (.inl 5)]) (wc := (kw_IT m r)) (w' := (kw_H r t ((fn2_keep m r p0).2) y x c u)) (r := (some (.inl ((fn2_keep m r p0).1)), (kw_IT ((fn2_keep m r p0).2) r), 0, 0)) ?_ ?_ ?_ ?_ ?_ ?_ ?_ ?_ ?_ ?_
  · exact ks_H_IT_3_1_o r t m y x c u
  · rfl
  · rfl
  · exact ks_H_IT_3_1_s r t m y x c u
  · exact ⟨m, r, p0, rfl, rfl, hp.2.2.1⟩
  · exact fe2_keep m r p0
  · exact kwl_IT ((fn2_keep m r p0).2) r
  · rfl
  · exact ks_H_IT_3_1_m r t m y x c u ((fn2_keep m r p0).2) r
  refine am_ci (c := (fn2_keep m r p0).1 = 0) hp.2.2.2 ?_
  exact hk _ _
def wt9_forget_11 (r : qt6) (t : qt6) (m : qt2) (y : qt0) (x : qt5) (c : qt1) (u : qt6) (p0 : Int32) : Prop := ((wp2_isVariable m p0) ∧ ((fn2_isVariable m p0) = 0))
set_option maxRecDepth 100000 in
set_option maxHeartbeats 4000000 in
theorem rt9_forget_11 (r : qt6) (t : qt6) (m : qt2) (y : qt0) (x : qt5) (c : qt1) (u : qt6) (p0 : Int32) (hp : wt9_forget_11 r t m y x c u p0) : am_evT (am_mk kb9_forget 0 0 27) 11 (0, am_L0 [.inr (.inl 0), .inl p0] 2, [], (kw_H r t m y x c u), 0, 0) = some (none, (kw_H r t m y x c u)) := by
  unfold wt9_forget_11 at hp
  unfold am_evT
  have hk : ∀ (L : List (Option am_V)) (w : List am_C), am_kT 11 (11, L, [], w, 0, 0) = some (none, w) := fun _ _ => rfl
  generalize am_kT 11 = kt at hk ⊢
  refine am_cy (pre := pr2_isVariable) (f := fm2_isVariable) (a' := [.inr (.inl 0), .inl p0]) (wc := (kw_I m)) (w' := (kw_H r t m y x c u)) (r := (some (.inl (fn2_isVariable m p0)), (kw_I m), 0, 0)) ?_ ?_ ?_ ?_ ?_ ?_ ?_ ?_ ?_ ?_
  · exact ks_H_I_3_o r t m y x c u
  · rfl
  · rfl
  · exact ks_H_I_3_s r t m y x c u
  · exact ⟨m, p0, rfl, rfl, hp.1⟩
  · exact fe2_isVariable m p0
  · exact kwl_I m
  · rfl
  · exact ks_H_I_3_m r t m y x c u m
  refine am_ci (c := (fn2_isVariable m p0) = 0) hp.2 ?_
  exact hk _ _
def wt9_write_10 (r : qt6) (t : qt6) (m : qt2) (y : qt0) (x : qt5) (c : qt1) (u : qt6) : Prop := ((qg0_compiled y) = 0)
set_option maxRecDepth 100000 in
set_option maxHeartbeats 4000000 in
theorem rt9_write_10 (r : qt6) (t : qt6) (m : qt2) (y : qt0) (x : qt5) (c : qt1) (u : qt6) (hp : wt9_write_10 r t m y x c u) : am_evT (am_mk kb9_write 0 0 27) 10 (0, am_L0 [.inr (.inl 0)] 1, [], (kw_H r t m y x c u), 0, 0) = some (none, (kw_H r t m y x c u)) := by
  unfold wt9_write_10 at hp
  unfold am_evT
  have hk : ∀ (L : List (Option am_V)) (w : List am_C), am_kT 10 (10, L, [], w, 0, 0) = some (none, w) := fun _ _ => rfl
  generalize am_kT 10 = kt at hk ⊢
  refine am_ci (c := (qg0_compiled y) = 0) hp ?_
  exact hk _ _
def wt9_write_41 (r : qt6) (t : qt6) (m : qt2) (y : qt0) (x : qt5) (c : qt1) (u : qt6) : Prop := (¬ ((qg0_compiled y) = 0) ∧ ((wp8_fill u x m) ∧ ((fn8_fill u x m).1 = 0)))
set_option maxRecDepth 100000 in
set_option maxHeartbeats 4000000 in
theorem rt9_write_41 (r : qt6) (t : qt6) (m : qt2) (y : qt0) (x : qt5) (c : qt1) (u : qt6) (hp : wt9_write_41 r t m y x c u) : am_evT (am_mk kb9_write 0 0 27) 41 (0, am_L0 [.inr (.inl 0)] 1, [], (kw_H r t m y x c u), 0, 0) = some (none, (kw_H r t ((fn8_fill u x m).2.2) y x c ((fn8_fill u x m).2.1))) := by
  unfold wt9_write_41 at hp
  unfold am_evT
  have hk : ∀ (L : List (Option am_V)) (w : List am_C), am_kT 41 (41, L, [], w, 0, 0) = some (none, w) := fun _ _ => rfl
  generalize am_kT 41 = kt at hk ⊢
  refine am_cn (c := (qg0_compiled y) = 0) hp.1 ?_
  refine am_cy (pre := pr8_fill) (f := fm8_fill) (a' := [.inr (.inl 0), .inr (.inl 3), .inr (.inl 11)]) (wc := (kw_W u x m)) (w' := (kw_H r t ((fn8_fill u x m).2.2) y x c ((fn8_fill u x m).2.1))) (r := (some (.inl ((fn8_fill u x m).1)), (kw_W ((fn8_fill u x m).2.1) x ((fn8_fill u x m).2.2)), 0, 0)) ?_ ?_ ?_ ?_ ?_ ?_ ?_ ?_ ?_ ?_
  · exact ks_H_W_7_8_5_3_o r t m y x c u
  · rfl
  · rfl
  · exact ks_H_W_7_8_5_3_s r t m y x c u
  · exact ⟨u, x, m, rfl, rfl, hp.2.1⟩
  · exact fe8_fill u x m
  · exact kwl_W ((fn8_fill u x m).2.1) x ((fn8_fill u x m).2.2)
  · rfl
  · exact ks_H_W_7_8_5_3_m r t m y x c u ((fn8_fill u x m).2.1) x ((fn8_fill u x m).2.2)
  refine am_ci (c := (fn8_fill u x m).1 = 0) hp.2.2 ?_
  exact hk _ _
