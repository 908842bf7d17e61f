/-! contracts of the throws, one for each place -/
abbrev pt9_add_21 : List am_V → List am_C → Prop := fun a w => ∃ (r : qt6) (t : qt6) (m : qt2) (y : qt0) (x : qt5) (c : qt1) (u : qt6), a = [.inr (.inl 0)] ∧ w = (kw_H r t m y x c u) ∧ wt9_add_21 r t m y x c u
noncomputable def ft9_add_21 : am_MT := fun a w => (fun (r : qt6) (t : qt6) (m : qt2) (y : qt0) (x : qt5) (c : qt1) (u : qt6) => (kw_H r t m y x c u)) (qs6 w 1) (qs6 w 3) (qs2 w 5) (qs0 w 10) (qs5 w 15) (qs1 w 23) (qs6 w 25)
theorem gt9_add_21 (r : qt6) (t : qt6) (m : qt2) (y : qt0) (x : qt5) (c : qt1) (u : qt6) : ft9_add_21 [.inr (.inl 0)] (kw_H r t m y x c u) = (kw_H r t m y x c u) := rfl
set_option maxRecDepth 100000 in
set_option maxHeartbeats 4000000 in
theorem rw9_add_21 : ∀ (a : List am_V) (w : List am_C), pt9_add_21 a w → am_evT (am_mk kb9_add 0 0 w.length) 21 (0, am_L0 a 2, [], w, 0, 0) = some (none, ft9_add_21 a w) := by
  rintro a w ⟨r, t, m, y, x, c, u, rfl, rfl, hp⟩
  rw [gt9_add_21]
  exact rt9_add_21 r t m y x c u hp
theorem rk9_add_21 : ∀ (a : List am_V) (w : List am_C), pt9_add_21 a w → a.length ≤ 2 := by
  rintro a w ⟨r, t, m, y, x, c, u, rfl, rfl, hp⟩
  exact Nat.le_of_ble_eq_true rfl
theorem pb9_add_21 : ∀ a w, pt9_add_21 a w → ∃ q a' ci fs r, a = .inr (.inl q) :: a' ∧ w[q]? = some (.inr (ci, fs)) ∧ hn_cl[ci]? = some r ∧ r.1 = hn_R9 := by
  rintro a w ⟨r, t, m, y, x, c, u, rfl, rfl, hp⟩
  exact ⟨0, _, 9, _, _, rfl, rfl, rfl, rfl⟩
set_option maxRecDepth 100000 in
set_option maxHeartbeats 4000000 in
theorem kt9_add_21 {l : Launch} {E : (Nat → Prop) → State → Prop} {D : va_G} {ou : Nat → Nat} {ca : Nat → ClassId} (hE : hg_E E ou) (hX : hx_E E) (hl : ∀ e : Env, l.admits e → e.platform.stackTraces = false) : am_MetT l E D hn_cl (hg_tys ca) ou ca hy9_add (Cond.code hy9_add prog_1_method_4_code 2 (some .int) :: gw_all) 6 240 "java/lang/IllegalStateException" pt9_add_21 ft9_add_21 := by
  refine am_metT (B := kb9_add) (nt := 5) (tpc := 21) 0 12 hE hX hl rfl rfl rfl (by decide +kernel) (by omega) (by omega) (by decide +kernel) (by decide +kernel) (by decide +kernel) (by decide +kernel) (by decide +kernel) (by decide +kernel) rfl rfl (hg_tys_ok ca) ?_ (by decide) rk9_add_21 ?_ rw9_add_21
  · exact fun t ht => List.mem_cons_of_mem _ (hg_arr t ht)
  · intro a w hp ad p e R s m args below meth c hR X hEs hnm
    have hR1 : 1 ≤ R.frames ∧ 40 ≤ R.locals := by rw [hR]; exact ⟨by show _ ≤ 6; omega, by show _ ≤ 240; omega⟩
    have hN := hE.2.1 _ _ hEs
    refine ⟨kd9_add_ok, fun index ci fi mode hq => kf9_ok X.2.2.2.2.1 hN.1 (index, ci, fi, mode) (am_as_mem hq), fun index ci fs hq => (am_no hq).elim, fun x v hq => (am_no hq).elim, ?_, fun o t n f hq => (am_no hq).elim, rfl, rfl, Nat.zero_le _, Nat.zero_le _⟩
    intro pc sel n0 pre0 f0 hq
    have hz : ∀ q ∈ ki9_add, am_CK p l e R s m args below meth c D hn_cl (va_A (am_w ad ou ca w) s.heap.size) ou ca 2 q.1 q.2.2.1 q.2.2.2.1 q.2.2.2.2 := by
      refine am_allc (am_ck_V (n := 1) X hEs hE.1 (km6_at hE) (hg_good (gw_mem 318 (by decide +kernel))) rfl (List.mem_cons_of_mem _ (gw_mem 69 (by decide +kernel))) (List.mem_cons_of_mem _ (gw_mem 588 (by decide +kernel))) (List.mem_cons_of_mem _ (gw_mem 316 (by decide +kernel))) (List.mem_cons_of_mem _ (gw_mem 317 (by decide +kernel))) pa6_at (by decide +kernel) ⟨Nat.le_trans (by decide) hR1.1, Nat.le_trans (by decide) hR1.2⟩ (kd9_add_ok (53, .invokevirtual 66, 3) (List.mem_of_getElem? (i := 26) rfl))) (am_allc (am_ck_V (n := 1) X hEs hE.1 (km6_put hE) (hg_good (gw_mem 290 (by decide +kernel))) rfl (List.mem_cons_of_mem _ (gw_mem 69 (by decide +kernel))) (List.mem_cons_of_mem _ (gw_mem 287 (by decide +kernel))) (List.mem_cons_of_mem _ (gw_mem 288 (by decide +kernel))) (List.mem_cons_of_mem _ (gw_mem 289 (by decide +kernel))) pa6_put (by decide +kernel) ⟨Nat.le_trans (by decide) hR1.1, Nat.le_trans (by decide) hR1.2⟩ (kd9_add_ok (56, .invokevirtual 48, 3) (List.mem_of_getElem? (i := 27) rfl))) (am_allc (am_ck_V (n := 0) X hEs hE.1 (km6_empty hE) (hg_good (gw_mem 298 (by decide +kernel))) rfl (List.mem_cons_of_mem _ (gw_mem 69 (by decide +kernel))) (List.mem_cons_of_mem _ (gw_mem 295 (by decide +kernel))) (List.mem_cons_of_mem _ (gw_mem 296 (by decide +kernel))) (List.mem_cons_of_mem _ (gw_mem 297 (by decide +kernel))) pa6_empty (by decide +kernel) ⟨Nat.le_trans (by decide) hR1.1, Nat.le_trans (by decide) hR1.2⟩ (kd9_add_ok (70, .invokevirtual 51, 3) (List.mem_of_getElem? (i := 33) rfl))) (am_all0)))
    exact hz _ (am_as_mem hq)
abbrev pt9_compile_14 : List am_V → List am_C → Prop := fun a w => ∃ (r : qt6) (t : qt6) (m : qt2) (y : qt0) (x : qt5) (c : qt1) (u : qt6), a = [.inr (.inl 0)] ∧ w = (kw_H r t m y x c u) ∧ wt9_compile_14 r t m y x c u
noncomputable def ft9_compile_14 : am_MT := fun a w => (fun (r : qt6) (t : qt6) (m : qt2) (y : qt0) (x : qt5) (c : qt1) (u : qt6) => (kw_H r t m ((fn0_reads y x c t).2.1) ((fn0_reads y x c t).2.2.1) ((fn0_reads y x c t).2.2.2) u)) (qs6 w 1) (qs6 w 3) (qs2 w 5) (qs0 w 10) (qs5 w 15) (qs1 w 23) (qs6 w 25)
theorem gt9_compile_14 (r : qt6) (t : qt6) (m : qt2) (y : qt0) (x : qt5) (c : qt1) (u : qt6) : ft9_compile_14 [.inr (.inl 0)] (kw_H r t m y x c u) = (kw_H r t m ((fn0_reads y x c t).2.1) ((fn0_reads y x c t).2.2.1) ((fn0_reads y x c t).2.2.2) u) := rfl
set_option maxRecDepth 100000 in
set_option maxHeartbeats 4000000 in
theorem rw9_compile_14 : ∀ (a : List am_V) (w : List am_C), pt9_compile_14 a w → am_evT (am_mk kb9_compile 0 0 w.length) 14 (0, am_L0 a 1, [], w, 0, 0) = some (none, ft9_compile_14 a w) := by
  rintro a w ⟨r, t, m, y, x, c, u, rfl, rfl, hp⟩
  rw [gt9_compile_14]
  exact rt9_compile_14 r t m y x c u hp
theorem rk9_compile_14 : ∀ (a : List am_V) (w : List am_C), pt9_compile_14 a w → a.length ≤ 1 := by
  rintro a w ⟨r, t, m, y, x, c, u, rfl, rfl, hp⟩
  exact Nat.le_of_ble_eq_true rfl
theorem pb9_compile_14 : ∀ a w, pt9_compile_14 a w → ∃ q a' ci fs r, a = .inr (.inl q) :: a' ∧ w[q]? = some (.inr (ci, fs)) ∧ hn_cl[ci]? = some r ∧ r.1 = hn_R9 := by
  rintro a w ⟨r, t, m, y, x, c, u, rfl, rfl, hp⟩
  exact ⟨0, _, 9, _, _, rfl, rfl, rfl, rfl⟩
set_option maxRecDepth 100000 in
set_option maxHeartbeats 4000000 in
theorem kt9_compile_14 {l : Launch} {E : (Nat → Prop) → State → Prop} {D : va_G} {ou : Nat → Nat} {ca : Nat → ClassId} (hE : hg_E E ou) (hX : hx_E E) (hl : ∀ e : Env, l.admits e → e.platform.stackTraces = false) : am_MetT l E D hn_cl (hg_tys ca) ou ca hy9_compile (Cond.code hy9_compile prog_1_method_6_code 1 (some .int) :: gw_all) 10 400 "java/lang/IllegalArgumentException" pt9_compile_14 ft9_compile_14 := by
  refine am_metT (B := kb9_compile) (nt := 5) (tpc := 14) 1 13 hE hX hl rfl rfl rfl (by decide +kernel) (by omega) (by omega) (by decide +kernel) (by decide +kernel) (by decide +kernel) (by decide +kernel) (by decide +kernel) (by decide +kernel) rfl rfl (hg_tys_ok ca) ?_ (by decide) rk9_compile_14 ?_ rw9_compile_14
  · exact fun t ht => List.mem_cons_of_mem _ (hg_arr t ht)
  · intro a w hp ad p e R s m args below meth c hR X hEs hnm
    have hR1 : 10 ≤ R.frames ∧ 400 ≤ R.locals := by rw [hR]; exact ⟨by show _ ≤ 10; omega, by show _ ≤ 400; omega⟩
    have hN := hE.2.1 _ _ hEs
    refine ⟨kd9_compile_ok, fun index ci fi mode hq => kf9_ok X.2.2.2.2.1 hN.1 (index, ci, fi, mode) (am_as_mem hq), fun index ci fs hq => (am_no hq).elim, fun x v hq => (am_no hq).elim, ?_, fun o t n f hq => (am_no hq).elim, rfl, rfl, Nat.zero_le _, Nat.zero_le _⟩
    intro pc sel n0 pre0 f0 hq
    have hz : ∀ q ∈ ki9_compile, am_CK p l e R s m args below meth c D hn_cl (va_A (am_w ad ou ca w) s.heap.size) ou ca 1 q.1 q.2.2.1 q.2.2.2.1 q.2.2.2.2 := by
      refine am_allc (am_ck_V (n := 1) X hEs hE.1 (km0_reads hE) (hg_good (gw_mem 310 (by decide +kernel))) rfl (List.mem_cons_of_mem _ (gw_mem 72 (by decide +kernel))) (List.mem_cons_of_mem _ (gw_mem 307 (by decide +kernel))) (List.mem_cons_of_mem _ (gw_mem 308 (by decide +kernel))) (List.mem_cons_of_mem _ (gw_mem 309 (by decide +kernel))) pa0_reads (by decide +kernel) ⟨Nat.le_trans (by decide) hR1.1, Nat.le_trans (by decide) hR1.2⟩ (kd9_compile_ok (8, .invokevirtual 74, 3) (List.mem_of_getElem? (i := 4) rfl))) (am_all0)
    exact hz _ (am_as_mem hq)
abbrev pt9_item_11 : List am_V → List am_C → Prop := fun a w => ∃ (r : qt6) (t : qt6) (m : qt2) (y : qt0) (x : qt5) (c : qt1) (u : qt6) (p0 : Int32), a = [.inr (.inl 0), .inl p0] ∧ w = (kw_H r t m y x c u) ∧ wt9_item_11 r t m y x c u p0
noncomputable def ft9_item_11 : am_MT := fun a w => (fun (r : qt6) (t : qt6) (m : qt2) (y : qt0) (x : qt5) (c : qt1) (u : qt6) (p0 : Int32) => (kw_H r t m y x c u)) (qs6 w 1) (qs6 w 3) (qs2 w 5) (qs0 w 10) (qs5 w 15) (qs1 w 23) (qs6 w 25) (am_i (am_an a 1))
theorem gt9_item_11 (r : qt6) (t : qt6) (m : qt2) (y : qt0) (x : qt5) (c : qt1) (u : qt6) (p0 : Int32) : ft9_item_11 [.inr (.inl 0), .inl p0] (kw_H r t m y x c u) = (kw_H r t m y x c u) := rfl
set_option maxRecDepth 100000 in
set_option maxHeartbeats 4000000 in
theorem rw9_item_11 : ∀ (a : List am_V) (w : List am_C), pt9_item_11 a w → am_evT (am_mk kb9_item 0 0 w.length) 11 (0, am_L0 a 2, [], w, 0, 0) = some (none, ft9_item_11 a w) := by
  rintro a w ⟨r, t, m, y, x, c, u, p0, rfl, rfl, hp⟩
  rw [gt9_item_11]
  exact rt9_item_11 r t m y x c u p0 hp
theorem rk9_item_11 : ∀ (a : List am_V) (w : List am_C), pt9_item_11 a w → a.length ≤ 2 := by
  rintro a w ⟨r, t, m, y, x, c, u, p0, rfl, rfl, hp⟩
  exact Nat.le_of_ble_eq_true rfl
theorem pb9_item_11 : ∀ a w, pt9_item_11 a w → ∃ q a' ci fs r, a = .inr (.inl q) :: a' ∧ w[q]? = some (.inr (ci, fs)) ∧ hn_cl[ci]? = some r ∧ r.1 = hn_R9 := by
  rintro a w ⟨r, t, m, y, x, c, u, p0, rfl, rfl, hp⟩
  exact ⟨0, _, 9, _, _, rfl, rfl, rfl, rfl⟩
set_option maxRecDepth 100000 in
set_option maxHeartbeats 4000000 in
theorem kt9_item_11 {l : Launch} {E : (Nat → Prop) → State → Prop} {D : va_G} {ou : Nat → Nat} {ca : Nat → ClassId} (hE : hg_E E ou) (hX : hx_E E) (hl : ∀ e : Env, l.admits e → e.platform.stackTraces = false) : am_MetT l E D hn_cl (hg_tys ca) ou ca hy9_item (Cond.code hy9_item prog_1_method_10_code 2 (some .int) :: gw_all) 6 240 "java/lang/IndexOutOfBoundsException" pt9_item_11 ft9_item_11 := by
  refine am_metT (B := kb9_item) (nt := 5) (tpc := 11) 2 14 hE hX hl rfl rfl rfl (by decide +kernel) (by omega) (by omega) (by decide +kernel) (by decide +kernel) (by decide +kernel) (by decide +kernel) (by decide +kernel) (by decide +kernel) rfl rfl (hg_tys_ok ca) ?_ (by decide) rk9_item_11 ?_ rw9_item_11
  · exact fun t ht => List.mem_cons_of_mem _ (hg_arr t ht)
  · intro a w hp ad p e R s m args below meth c hR X hEs hnm
    have hR1 : 2 ≤ R.frames ∧ 80 ≤ R.locals := by rw [hR]; exact ⟨by show _ ≤ 6; omega, by show _ ≤ 240; omega⟩
    have hN := hE.2.1 _ _ hEs
    refine ⟨kd9_item_ok, fun index ci fi mode hq => kf9_ok X.2.2.2.2.1 hN.1 (index, ci, fi, mode) (am_as_mem hq), fun index ci fs hq => (am_no hq).elim, fun x v hq => (am_no hq).elim, ?_, fun o t n f hq => (am_no hq).elim, rfl, rfl, Nat.zero_le _, Nat.zero_le _⟩
    intro pc sel n0 pre0 f0 hq
    have hz : ∀ q ∈ ki9_item, am_CK p l e R s m args below meth c D hn_cl (va_A (am_w ad ou ca w) s.heap.size) ou ca 2 q.1 q.2.2.1 q.2.2.2.1 q.2.2.2.2 := by
      refine am_allc (am_ck_V (n := 1) X hEs hE.1 (km2_isVariable hE) (hg_good (gw_mem 700 (by decide +kernel))) rfl (List.mem_cons_of_mem _ (gw_mem 71 (by decide +kernel))) (List.mem_cons_of_mem _ (gw_mem 697 (by decide +kernel))) (List.mem_cons_of_mem _ (gw_mem 698 (by decide +kernel))) (List.mem_cons_of_mem _ (gw_mem 699 (by decide +kernel))) pa2_isVariable (by decide +kernel) ⟨Nat.le_trans (by decide) hR1.1, Nat.le_trans (by decide) hR1.2⟩ (kd9_item_ok (5, .invokevirtual 93, 3) (List.mem_of_getElem? (i := 3) rfl))) (am_allc (am_ck_V (n := 2) X hEs hE.1 (km2_keep hE) (hg_good (gw_mem 720 (by decide +kernel))) rfl (List.mem_cons_of_mem _ (gw_mem 71 (by decide +kernel))) (List.mem_cons_of_mem _ (gw_mem 717 (by decide +kernel))) (List.mem_cons_of_mem _ (gw_mem 718 (by decide +kernel))) (List.mem_cons_of_mem _ (gw_mem 719 (by decide +kernel))) pa2_keep (by decide +kernel) ⟨Nat.le_trans (by decide) hR1.1, Nat.le_trans (by decide) hR1.2⟩ (kd9_item_ok (30, .invokevirtual 102, 3) (List.mem_of_getElem? (i := 15) rfl))) (am_allc (am_ck_V (n := 0) X hEs hE.1 (km6_empty hE) (hg_good (gw_mem 298 (by decide +kernel))) rfl (List.mem_cons_of_mem _ (gw_mem 69 (by decide +kernel))) (List.mem_cons_of_mem _ (gw_mem 295 (by decide +kernel))) (List.mem_cons_of_mem _ (gw_mem 296 (by decide +kernel))) (List.mem_cons_of_mem _ (gw_mem 297 (by decide +kernel))) pa6_empty (by decide +kernel) ⟨Nat.le_trans (by decide) hR1.1, Nat.le_trans (by decide) hR1.2⟩ (kd9_item_ok (50, .invokevirtual 51, 3) (List.mem_of_getElem? (i := 24) rfl))) (am_allc (am_ck_V (n := 1) X hEs hE.1 (km2_count hE) (hg_good (gw_mem 727 (by decide +kernel))) rfl (List.mem_cons_of_mem _ (gw_mem 71 (by decide +kernel))) (List.mem_cons_of_mem _ (gw_mem 724 (by decide +kernel))) (List.mem_cons_of_mem _ (gw_mem 725 (by decide +kernel))) (List.mem_cons_of_mem _ (gw_mem 726 (by decide +kernel))) pa2_count (by decide +kernel) ⟨Nat.le_trans (by decide) hR1.1, Nat.le_trans (by decide) hR1.2⟩ (kd9_item_ok (59, .invokevirtual 108, 3) (List.mem_of_getElem? (i := 29) rfl))) (am_all0))))
    exact hz _ (am_as_mem hq)
abbrev pt9_item_36 : List am_V → List am_C → Prop := fun a w => ∃ (r : qt6) (t : qt6) (m : qt2) (y : qt0) (x : qt5) (c : qt1) (u : qt6) (p0 : Int32), a = [.inr (.inl 0), .inl p0] ∧ w = (kw_H r t m y x c u) ∧ wt9_item_36 r t m y x c u p0
noncomputable def ft9_item_36 : am_MT := fun a w => (fun (r : qt6) (t : qt6) (m : qt2) (y : qt0) (x : qt5) (c : qt1) (u : qt6) (p0 : Int32) => (kw_H r t ((fn2_keep m r p0).2) y x c u)) (qs6 w 1) (qs6 w 3) (qs2 w 5) (qs0 w 10) (qs5 w 15) (qs1 w 23) (qs6 w 25) (am_i (am_an a 1))
theorem gt9_item_36 (r : qt6) (t : qt6) (m : qt2) (y : qt0) (x : qt5) (c : qt1) (u : qt6) (p0 : Int32) : ft9_item_36 [.inr (.inl 0), .inl p0] (kw_H r t m y x c u) = (kw_H r t ((fn2_keep m r p0).2) y x c u) := rfl
set_option maxRecDepth 100000 in
set_option maxHeartbeats 4000000 in
theorem rw9_item_36 : ∀ (a : List am_V) (w : List am_C), pt9_item_36 a w → am_evT (am_mk kb9_item 0 0 w.length) 36 (0, am_L0 a 2, [], w, 0, 0) = some (none, ft9_item_36 a w) := by
  rintro a w ⟨r, t, m, y, x, c, u, p0, rfl, rfl, hp⟩
  rw [gt9_item_36]
  exact rt9_item_36 r t m y x c u p0 hp
theorem rk9_item_36 : ∀ (a : List am_V) (w : List am_C), pt9_item_36 a w → a.length ≤ 2 := by
  rintro a w ⟨r, t, m, y, x, c, u, p0, rfl, rfl, hp⟩
  exact Nat.le_of_ble_eq_true rfl
theorem pb9_item_36 : ∀ a w, pt9_item_36 a w → ∃ q a' ci fs r, a = .inr (.inl q) :: a' ∧ w[q]? = some (.inr (ci, fs)) ∧ hn_cl[ci]? = some r ∧ r.1 = hn_R9 := by
  rintro a w ⟨r, t, m, y, x, c, u, p0, rfl, rfl, hp⟩
  exact ⟨0, _, 9, _, _, rfl, rfl, rfl, rfl⟩
set_option maxRecDepth 100000 in
set_option maxHeartbeats 4000000 in
theorem kt9_item_36 {l : Launch} {E : (Nat → Prop) → State → Prop} {D : va_G} {ou : Nat → Nat} {ca : Nat → ClassId} (hE : hg_E E ou) (hX : hx_E E) (hl : ∀ e : Env, l.admits e → e.platform.stackTraces = false) : am_MetT l E D hn_cl (hg_tys ca) ou ca hy9_item (Cond.code hy9_item prog_1_method_10_code 2 (some .int) :: gw_all) 6 240 "java/lang/IllegalStateException" pt9_item_36 ft9_item_36 := by
  refine am_metT (B := kb9_item) (nt := 5) (tpc := 36) 0 15 hE hX hl rfl rfl rfl (by decide +kernel) (by omega) (by omega) (by decide +kernel) (by decide +kernel) (by decide +kernel) (by decide +kernel) (by decide +kernel) (by decide +kernel) rfl rfl (hg_tys_ok ca) ?_ (by decide) rk9_item_36 ?_ rw9_item_36
  · exact fun t ht => List.mem_cons_of_mem _ (hg_arr t ht)
  · intro a w hp ad p e R s m args below meth c hR X hEs hnm
    have hR1 : 2 ≤ R.frames ∧ 80 ≤ R.locals := by rw [hR]; exact ⟨by show _ ≤ 6; omega, by show _ ≤ 240; omega⟩
    have hN := hE.2.1 _ _ hEs
    refine ⟨kd9_item_ok, fun index ci fi mode hq => kf9_ok X.2.2.2.2.1 hN.1 (index, ci, fi, mode) (am_as_mem hq), fun index ci fs hq => (am_no hq).elim, fun x v hq => (am_no hq).elim, ?_, fun o t n f hq => (am_no hq).elim, rfl, rfl, Nat.zero_le _, Nat.zero_le _⟩
    intro pc sel n0 pre0 f0 hq
    have hz : ∀ q ∈ ki9_item, am_CK p l e R s m args below meth c D hn_cl (va_A (am_w ad ou ca w) s.heap.size) ou ca 2 q.1 q.2.2.1 q.2.2.2.1 q.2.2.2.2 := by
      refine am_allc (am_ck_V (n := 1) X hEs hE.1 (km2_isVariable hE) (hg_good (gw_mem 700 (by decide +kernel))) rfl (List.mem_cons_of_mem _ (gw_mem 71 (by decide +kernel))) (List.mem_cons_of_mem _ (gw_mem 697 (by decide +kernel))) (List.mem_cons_of_mem _ (gw_mem 698 (by decide +kernel))) (List.mem_cons_of_mem _ (gw_mem 699 (by decide +kernel))) pa2_isVariable (by decide +kernel) ⟨Nat.le_trans (by decide) hR1.1, Nat.le_trans (by decide) hR1.2⟩ (kd9_item_ok (5, .invokevirtual 93, 3) (List.mem_of_getElem? (i := 3) rfl))) (am_allc (am_ck_V (n := 2) X hEs hE.1 (km2_keep hE) (hg_good (gw_mem 720 (by decide +kernel))) rfl (List.mem_cons_of_mem _ (gw_mem 71 (by decide +kernel))) (List.mem_cons_of_mem _ (gw_mem 717 (by decide +kernel))) (List.mem_cons_of_mem _ (gw_mem 718 (by decide +kernel))) (List.mem_cons_of_mem _ (gw_mem 719 (by decide +kernel))) pa2_keep (by decide +kernel) ⟨Nat.le_trans (by decide) hR1.1, Nat.le_trans (by decide) hR1.2⟩ (kd9_item_ok (30, .invokevirtual 102, 3) (List.mem_of_getElem? (i := 15) rfl))) (am_allc (am_ck_V (n := 0) X hEs hE.1 (km6_empty hE) (hg_good (gw_mem 298 (by decide +kernel))) rfl (List.mem_cons_of_mem _ (gw_mem 69 (by decide +kernel))) (List.mem_cons_of_mem _ (gw_mem 295 (by decide +kernel))) (List.mem_cons_of_mem _ (gw_mem 296 (by decide +kernel))) (List.mem_cons_of_mem _ (gw_mem 297 (by decide +kernel))) pa6_empty (by decide +kernel) ⟨Nat.le_trans (by decide) hR1.1, Nat.le_trans (by decide) hR1.2⟩ (kd9_item_ok (50, .invokevirtual 51, 3) (List.mem_of_getElem? (i := 24) rfl))) (am_allc (am_ck_V (n := 1) X hEs hE.1 (km2_count hE) (hg_good (gw_mem 727 (by decide +kernel))) rfl (List.mem_cons_of_mem _ (gw_mem 71 (by decide +kernel))) (List.mem_cons_of_mem _ (gw_mem 724 (by decide +kernel))) (List.mem_cons_of_mem _ (gw_mem 725 (by decide +kernel))) (List.mem_cons_of_mem _ (gw_mem 726 (by decide +kernel))) pa2_count (by decide +kernel) ⟨Nat.le_trans (by decide) hR1.1, Nat.le_trans (by decide) hR1.2⟩ (kd9_item_ok (59, .invokevirtual 108, 3) (List.mem_of_getElem? (i := 29) rfl))) (am_all0))))
    exact hz _ (am_as_mem hq)
abbrev pt9_forget_11 : List am_V → List am_C → Prop := fun a w => ∃ (r : qt6) (t : qt6) (m : qt2) (y : qt0) (x : qt5) (c : qt1) (u : qt6) (p0 : Int32), a = [.inr (.inl 0), .inl p0] ∧ w = (kw_H r t m y x c u) ∧ wt9_forget_11 r t m y x c u p0
noncomputable def ft9_forget_11 : am_MT := fun a w => (fun (r : qt6) (t : qt6) (m : qt2) (y : qt0) (x : qt5) (c : qt1) (u : qt6) (p0 : Int32) => (kw_H r t m y x c u)) (qs6 w 1) (qs6 w 3) (qs2 w 5) (qs0 w 10) (qs5 w 15) (qs1 w 23) (qs6 w 25) (am_i (am_an a 1))
theorem gt9_forget_11 (r : qt6) (t : qt6) (m : qt2) (y : qt0) (x : qt5) (c : qt1) (u : qt6) (p0 : Int32) : ft9_forget_11 [.inr (.inl 0), .inl p0] (kw_H r t m y x c u) = (kw_H r t m y x c u) := rfl
set_option maxRecDepth 100000 in
set_option maxHeartbeats 4000000 in
theorem rw9_forget_11 : ∀ (a : List am_V) (w : List am_C), pt9_forget_11 a w → am_evT (am_mk kb9_forget 0 0 w.length) 11 (0, am_L0 a 2, [], w, 0, 0) = some (none, ft9_forget_11 a w) := by
  rintro a w ⟨r, t, m, y, x, c, u, p0, rfl, rfl, hp⟩
  rw [gt9_forget_11]
  exact rt9_forget_11 r t m y x c u p0 hp
theorem rk9_forget_11 : ∀ (a : List am_V) (w : List am_C), pt9_forget_11 a w → a.length ≤ 2 := by
  rintro a w ⟨r, t, m, y, x, c, u, p0, rfl, rfl, hp⟩
  exact Nat.le_of_ble_eq_true rfl
theorem pb9_forget_11 : ∀ a w, pt9_forget_11 a w → ∃ q a' ci fs r, a = .inr (.inl q) :: a' ∧ w[q]? = some (.inr (ci, fs)) ∧ hn_cl[ci]? = some r ∧ r.1 = hn_R9 := by
  rintro a w ⟨r, t, m, y, x, c, u, p0, rfl, rfl, hp⟩
  exact ⟨0, _, 9, _, _, rfl, rfl, rfl, rfl⟩
set_option maxRecDepth 100000 in
set_option maxHeartbeats 4000000 in
theorem kt9_forget_11 {l : Launch} {E : (Nat → Prop) → State → Prop} {D : va_G} {ou : Nat → Nat} {ca : Nat → ClassId} (hE : hg_E E ou) (hX : hx_E E) (hl : ∀ e : Env, l.admits e → e.platform.stackTraces = false) : am_MetT l E D hn_cl (hg_tys ca) ou ca hy9_forget (Cond.code hy9_forget prog_1_method_11_code 2 (some .int) :: gw_all) 6 240 "java/lang/IndexOutOfBoundsException" pt9_forget_11 ft9_forget_11 := by
  refine am_metT (B := kb9_forget) (nt := 5) (tpc := 11) 2 14 hE hX hl rfl rfl rfl (by decide +kernel) (by omega) (by omega) (by decide +kernel) (by decide +kernel) (by decide +kernel) (by decide +kernel) (by decide +kernel) (by decide +kernel) rfl rfl (hg_tys_ok ca) ?_ (by decide) rk9_forget_11 ?_ rw9_forget_11
  · exact fun t ht => List.mem_cons_of_mem _ (hg_arr t ht)
  · intro a w hp ad p e R s m args below meth c hR X hEs hnm
    have hR1 : 3 ≤ R.frames ∧ 120 ≤ R.locals := by rw [hR]; exact ⟨by show _ ≤ 6; omega, by show _ ≤ 240; omega⟩
    have hN := hE.2.1 _ _ hEs
    refine ⟨kd9_forget_ok, fun index ci fi mode hq => kf9_ok X.2.2.2.2.1 hN.1 (index, ci, fi, mode) (am_as_mem hq), fun index ci fs hq => (am_no hq).elim, fun x v hq => (am_no hq).elim, ?_, fun o t n f hq => (am_no hq).elim, rfl, rfl, Nat.zero_le _, Nat.zero_le _⟩
    intro pc sel n0 pre0 f0 hq
    have hz : ∀ q ∈ ki9_forget, am_CK p l e R s m args below meth c D hn_cl (va_A (am_w ad ou ca w) s.heap.size) ou ca 2 q.1 q.2.2.1 q.2.2.2.1 q.2.2.2.2 := by
      refine am_allc (am_ck_V (n := 1) X hEs hE.1 (km2_isVariable hE) (hg_good (gw_mem 700 (by decide +kernel))) rfl (List.mem_cons_of_mem _ (gw_mem 71 (by decide +kernel))) (List.mem_cons_of_mem _ (gw_mem 697 (by decide +kernel))) (List.mem_cons_of_mem _ (gw_mem 698 (by decide +kernel))) (List.mem_cons_of_mem _ (gw_mem 699 (by decide +kernel))) pa2_isVariable (by decide +kernel) ⟨Nat.le_trans (by decide) hR1.1, Nat.le_trans (by decide) hR1.2⟩ (kd9_forget_ok (5, .invokevirtual 93, 3) (List.mem_of_getElem? (i := 3) rfl))) (am_allc (am_ck_V (n := 1) X hEs hE.1 (km2_drop hE) (hg_good (gw_mem 738 (by decide +kernel))) rfl (List.mem_cons_of_mem _ (gw_mem 71 (by decide +kernel))) (List.mem_cons_of_mem _ (gw_mem 735 (by decide +kernel))) (List.mem_cons_of_mem _ (gw_mem 736 (by decide +kernel))) (List.mem_cons_of_mem _ (gw_mem 737 (by decide +kernel))) pa2_drop (by decide +kernel) ⟨Nat.le_trans (by decide) hR1.1, Nat.le_trans (by decide) hR1.2⟩ (kd9_forget_ok (26, .invokevirtual 111, 3) (List.mem_of_getElem? (i := 13) rfl))) (am_all0))
    exact hz _ (am_as_mem hq)
abbrev pt9_write_10 : List am_V → List am_C → Prop := fun a w => ∃ (r : qt6) (t : qt6) (m : qt2) (y : qt0) (x : qt5) (c : qt1) (u : qt6), a = [.inr (.inl 0)] ∧ w = (kw_H r t m y x c u) ∧ wt9_write_10 r t m y x c u
noncomputable def ft9_write_10 : am_MT := fun a w => (fun (r : qt6) (t : qt6) (m : qt2) (y : qt0) (x : qt5) (c : qt1) (u : qt6) => (kw_H r t m y x c u)) (qs6 w 1) (qs6 w 3) (qs2 w 5) (qs0 w 10) (qs5 w 15) (qs1 w 23) (qs6 w 25)
theorem gt9_write_10 (r : qt6) (t : qt6) (m : qt2) (y : qt0) (x : qt5) (c : qt1) (u : qt6) : ft9_write_10 [.inr (.inl 0)] (kw_H r t m y x c u) = (kw_H r t m y x c u) := rfl
set_option maxRecDepth 100000 in
set_option maxHeartbeats 4000000 in
theorem rw9_write_10 : ∀ (a : List am_V) (w : List am_C), pt9_write_10 a w → am_evT (am_mk kb9_write 0 0 w.length) 10 (0, am_L0 a 1, [], w, 0, 0) = some (none, ft9_write_10 a w) := by
  rintro a w ⟨r, t, m, y, x, c, u, rfl, rfl, hp⟩
  rw [gt9_write_10]
  exact rt9_write_10 r t m y x c u hp
theorem rk9_write_10 : ∀ (a : List am_V) (w : List am_C), pt9_write_10 a w → a.length ≤ 1 := by
  rintro a w ⟨r, t, m, y, x, c, u, rfl, rfl, hp⟩
  exact Nat.le_of_ble_eq_true rfl
theorem pb9_write_10 : ∀ a w, pt9_write_10 a w → ∃ q a' ci fs r, a = .inr (.inl q) :: a' ∧ w[q]? = some (.inr (ci, fs)) ∧ hn_cl[ci]? = some r ∧ r.1 = hn_R9 := by
  rintro a w ⟨r, t, m, y, x, c, u, rfl, rfl, hp⟩
  exact ⟨0, _, 9, _, _, rfl, rfl, rfl, rfl⟩
set_option maxRecDepth 100000 in
set_option maxHeartbeats 4000000 in
theorem kt9_write_10 {l : Launch} {E : (Nat → Prop) → State → Prop} {D : va_G} {ou : Nat → Nat} {ca : Nat → ClassId} (hE : hg_E E ou) (hX : hx_E E) (hl : ∀ e : Env, l.admits e → e.platform.stackTraces = false) : am_MetT l E D hn_cl (hg_tys ca) ou ca hy9_write (Cond.code hy9_write prog_1_method_12_code 1 (some .int) :: gw_all) 40 1600 "java/lang/UnsupportedOperationException" pt9_write_10 ft9_write_10 := by
  refine am_metT (B := kb9_write) (nt := 5) (tpc := 10) 3 16 hE hX hl rfl rfl rfl (by decide +kernel) (by omega) (by omega) (by decide +kernel) (by decide +kernel) (by decide +kernel) (by decide +kernel) (by decide +kernel) (by decide +kernel) rfl rfl (hg_tys_ok ca) ?_ (by decide) rk9_write_10 ?_ rw9_write_10
  · exact fun t ht => List.mem_cons_of_mem _ (hg_arr t ht)
  · intro a w hp ad p e R s m args below meth c hR X hEs hnm
    have hR1 : 40 ≤ R.frames ∧ 1600 ≤ R.locals := by rw [hR]; exact ⟨by show _ ≤ 40; omega, by show _ ≤ 1600; omega⟩
    have hN := hE.2.1 _ _ hEs
    refine ⟨kd9_write_ok, fun index ci fi mode hq => kf9_ok X.2.2.2.2.1 hN.1 (index, ci, fi, mode) (am_as_mem hq), fun index ci fs hq => (am_no hq).elim, fun x v hq => (am_no hq).elim, ?_, fun o t n f hq => (am_no hq).elim, rfl, rfl, Nat.zero_le _, Nat.zero_le _⟩
    intro pc sel n0 pre0 f0 hq
    have hz : ∀ q ∈ ki9_write, am_CK p l e R s m args below meth c D hn_cl (va_A (am_w ad ou ca w) s.heap.size) ou ca 1 q.1 q.2.2.1 q.2.2.2.1 q.2.2.2.2 := by
      refine am_allc (am_ck_V (n := 2) X hEs hE.1 (km8_fill hE) (hg_good (gw_mem 767 (by decide +kernel))) rfl (List.mem_cons_of_mem _ (gw_mem 75 (by decide +kernel))) (List.mem_cons_of_mem _ (gw_mem 764 (by decide +kernel))) (List.mem_cons_of_mem _ (gw_mem 765 (by decide +kernel))) (List.mem_cons_of_mem _ (gw_mem 766 (by decide +kernel))) pa8_fill (by decide +kernel) ⟨Nat.le_trans (by decide) hR1.1, Nat.le_trans (by decide) hR1.2⟩ (kd9_write_ok (35, .invokevirtual 123, 3) (List.mem_of_getElem? (i := 16) rfl))) (am_all0)
    exact hz _ (am_as_mem hq)
abbrev pt9_write_41 : List am_V → List am_C → Prop := fun a w => ∃ (r : qt6) (t : qt6) (m : qt2) (y : qt0) (x : qt5) (c : qt1) (u : qt6), a = [.inr (.inl 0)] ∧ w = (kw_H r t m y x c u) ∧ wt9_write_41 r t m y x c u
noncomputable def ft9_write_41 : am_MT := fun a w => (fun (r : qt6) (t : qt6) (m : qt2) (y : qt0) (x : qt5) (c : qt1) (u : qt6) => (kw_H r t ((fn8_fill u x m).2.2) y x c ((fn8_fill u x m).2.1))) (qs6 w 1) (qs6 w 3) (qs2 w 5) (qs0 w 10) (qs5 w 15) (qs1 w 23) (qs6 w 25)
theorem gt9_write_41 (r : qt6) (t : qt6) (m : qt2) (y : qt0) (x : qt5) (c : qt1) (u : qt6) : ft9_write_41 [.inr (.inl 0)] (kw_H r t m y x c u) = (kw_H r t ((fn8_fill u x m).2.2) y x c ((fn8_fill u x m).2.1)) := rfl
set_option maxRecDepth 100000 in
set_option maxHeartbeats 4000000 in
theorem rw9_write_41 : ∀ (a : List am_V) (w : List am_C), pt9_write_41 a w → am_evT (am_mk kb9_write 0 0 w.length) 41 (0, am_L0 a 1, [], w, 0, 0) = some (none, ft9_write_41 a w) := by
  rintro a w ⟨r, t, m, y, x, c, u, rfl, rfl, hp⟩
  rw [gt9_write_41]
  exact rt9_write_41 r t m y x c u hp
theorem rk9_write_41 : ∀ (a : List am_V) (w : List am_C), pt9_write_41 a w → a.length ≤ 1 := by
  rintro a w ⟨r, t, m, y, x, c, u, rfl, rfl, hp⟩
  exact Nat.le_of_ble_eq_true rfl
theorem pb9_write_41 : ∀ a w, pt9_write_41 a w → ∃ q a' ci fs r, a = .inr (.inl q) :: a' ∧ w[q]? = some (.inr (ci, fs)) ∧ hn_cl[ci]? = some r ∧ r.1 = hn_R9 := by
  rintro a w ⟨r, t, m, y, x, c, u, rfl, rfl, hp⟩
  exact ⟨0, _, 9, _, _, rfl, rfl, rfl, rfl⟩
set_option maxRecDepth 100000 in
set_option maxHeartbeats 4000000 in
theorem kt9_write_41 {l : Launch} {E : (Nat → Prop) → State → Prop} {D : va_G} {ou : Nat → Nat} {ca : Nat → ClassId} (hE : hg_E E ou) (hX : hx_E E) (hl : ∀ e : Env, l.admits e → e.platform.stackTraces = false) : am_MetT l E D hn_cl (hg_tys ca) ou ca hy9_write (Cond.code hy9_write prog_1_method_12_code 1 (some .int) :: gw_all) 40 1600 "java/lang/IllegalStateException" pt9_write_41 ft9_write_41 := by
  refine am_metT (B := kb9_write) (nt := 5) (tpc := 41) 0 36 hE hX hl rfl rfl rfl (by decide +kernel) (by omega) (by omega) (by decide +kernel) (by decide +kernel) (by decide +kernel) (by decide +kernel) (by decide +kernel) (by decide +kernel) rfl rfl (hg_tys_ok ca) ?_ (by decide) rk9_write_41 ?_ rw9_write_41
  · exact fun t ht => List.mem_cons_of_mem _ (hg_arr t ht)
  · intro a w hp ad p e R s m args below meth c hR X hEs hnm
    have hR1 : 40 ≤ R.frames ∧ 1600 ≤ R.locals := by rw [hR]; exact ⟨by show _ ≤ 40; omega, by show _ ≤ 1600; omega⟩
    have hN := hE.2.1 _ _ hEs
    refine ⟨kd9_write_ok, fun index ci fi mode hq => kf9_ok X.2.2.2.2.1 hN.1 (index, ci, fi, mode) (am_as_mem hq), fun index ci fs hq => (am_no hq).elim, fun x v hq => (am_no hq).elim, ?_, fun o t n f hq => (am_no hq).elim, rfl, rfl, Nat.zero_le _, Nat.zero_le _⟩
    intro pc sel n0 pre0 f0 hq
    have hz : ∀ q ∈ ki9_write, am_CK p l e R s m args below meth c D hn_cl (va_A (am_w ad ou ca w) s.heap.size) ou ca 1 q.1 q.2.2.1 q.2.2.2.1 q.2.2.2.2 := by
      refine am_allc (am_ck_V (n := 2) X hEs hE.1 (km8_fill hE) (hg_good (gw_mem 767 (by decide +kernel))) rfl (List.mem_cons_of_mem _ (gw_mem 75 (by decide +kernel))) (List.mem_cons_of_mem _ (gw_mem 764 (by decide +kernel))) (List.mem_cons_of_mem _ (gw_mem 765 (by decide +kernel))) (List.mem_cons_of_mem _ (gw_mem 766 (by decide +kernel))) pa8_fill (by decide +kernel) ⟨Nat.le_trans (by decide) hR1.1, Nat.le_trans (by decide) hR1.2⟩ (kd9_write_ok (35, .invokevirtual 123, 3) (List.mem_of_getElem? (i := 16) rfl))) (am_all0)
    exact hz _ (am_as_mem hq)
