/-! the law's wrappers: contracts, a road each -/
def kw_HO (r : qt6) (t : qt6) (m : qt2) (y : qt0) (x : qt5) (c : qt1) (u : qt6) (g : Nat → Int32) : List am_C := kw_H r t m y x c u ++ [.inl (4, 1, g)]
set_option maxRecDepth 100000 in
set_option maxHeartbeats 4000000 in
theorem ko_o (r : qt6) (t : qt6) (m : qt2) (y : qt0) (x : qt5) (c : qt1) (u : qt6) (g : Nat → Int32) : am_sow (kw_HO r t m y x c u g) [0, 1, 2, 3, 4, 5, 6, 7, 8, 9, 10, 11, 12, 13, 14, 15, 16, 17, 18, 19, 20, 21, 22, 23, 24, 25, 26] = true := rfl
set_option maxRecDepth 100000 in
set_option maxHeartbeats 4000000 in
theorem ko_s (r : qt6) (t : qt6) (m : qt2) (y : qt0) (x : qt5) (c : qt1) (u : qt6) (g : Nat → Int32) : am_sub (kw_HO r t m y x c u g) [0, 1, 2, 3, 4, 5, 6, 7, 8, 9, 10, 11, 12, 13, 14, 15, 16, 17, 18, 19, 20, 21, 22, 23, 24, 25, 26] = kw_H r t m y x c u := rfl
set_option maxRecDepth 100000 in
set_option maxHeartbeats 4000000 in
theorem ko_m (r : qt6) (t : qt6) (m : qt2) (y : qt0) (x : qt5) (c : qt1) (u : qt6) (g : Nat → Int32) (r2 : qt6) (t2 : qt6) (m2 : qt2) (y2 : qt0) (x2 : qt5) (c2 : qt1) (u2 : qt6) : am_mix (kw_HO r t m y x c u g) [0, 1, 2, 3, 4, 5, 6, 7, 8, 9, 10, 11, 12, 13, 14, 15, 16, 17, 18, 19, 20, 21, 22, 23, 24, 25, 26] (kw_H r2 t2 m2 y2 x2 c2 u2) = kw_HO r2 t2 m2 y2 x2 c2 u2 g := rfl
abbrev hg_MetW (l : Launch) (E : (Nat → Prop) → State → Prop) (D : va_G) (ou : Nat → Nat) (ca : Nat → ClassId) (y : MethodName) (cc : ByteArray) (nL : Nat) (hh : List (Nat × Nat × Nat × Nat)) (h : Nat) (pre : List am_V → List am_C → Prop) (f : am_M) : Prop :=
  am_Met l E D hn_cl (hg_tys ca) ou ca y (Cond.codeWith y cc nL (some .int) hh :: gw_all) h (40 * h) pre f
def kdL_add : List (Nat × Instr × Nat) := [(0, .aload_n 1, 1), (1, .iconst 0, 1), (2, .aload_n 0, 1), (3, .invokevirtual 7, 3), (6, .i2l, 1), (7, .lastore, 1), (8, .goto 6, 3), (11, .astore_n 2, 1), (12, .iconst 1, 1), (13, .ireturn, 1), (14, .iconst 0, 1), (15, .ireturn, 1)]
theorem kdL_add_ok : ∀ q ∈ kdL_add, decode method_3_code q.1 = .ok q.2 := by decide +kernel
def hyL_add : MethodName := ⟨"HoleTemplatesLaw", "add", "(LHoleTemplates;[J)I"⟩
abbrev hhL_add : List (Nat × Nat × Nat × Nat) := [(0, 8, 11, 13)]
noncomputable def kiL_add : List (Nat × Option (List Nat) × Nat × (List am_V → List am_C → Prop) × am_M) := [(3, some [0, 1, 2, 3, 4, 5, 6, 7, 8, 9, 10, 11, 12, 13, 14, 15, 16, 17, 18, 19, 20, 21, 22, 23, 24, 25, 26], 1, pr9_add, fm9_add)]
noncomputable def kbL_add : am_B := (kdL_add, fun _ => none, hn_ty, fun _ => none, fun _ => none, am_as kiL_add, fun _ => none, 5, 3, (some .int))
abbrev prL_add : List am_V → List am_C → Prop := fun a w => ∃ (r : qt6) (t : qt6) (m : qt2) (y : qt0) (x : qt5) (c : qt1) (u : qt6) (g : Nat → Int32), a = [.inr (.inl 0), .inr (.inl 27)] ∧ w = kw_HO r t m y x c u g ∧ wp9_add r t m y x c u
noncomputable def fmL_add : am_M := fun a w => (fun (r : qt6) (t : qt6) (m : qt2) (y : qt0) (x : qt5) (c : qt1) (u : qt6) (g : Nat → Int32) => (some (.inl 0), kw_HO ((fn9_add r t m y x c u).2.1) ((fn9_add r t m y x c u).2.2.1) m ((fn9_add r t m y x c u).2.2.2) x c u (upd g 0 ((fn9_add r t m y x c u).1)), 0, 0)) (qs6 w 1) (qs6 w 3) (qs2 w 5) (qs0 w 10) (qs5 w 15) (qs1 w 23) (qs6 w 25) (am_ga w 27)
set_option maxRecDepth 100000 in
set_option maxHeartbeats 4000000 in
theorem feL_add (r : qt6) (t : qt6) (m : qt2) (y : qt0) (x : qt5) (c : qt1) (u : qt6) (g : Nat → Int32) : fmL_add [.inr (.inl 0), .inr (.inl 27)] (kw_HO r t m y x c u g) = (some (.inl 0), kw_HO ((fn9_add r t m y x c u).2.1) ((fn9_add r t m y x c u).2.2.1) m ((fn9_add r t m y x c u).2.2.2) x c u (upd g 0 ((fn9_add r t m y x c u).1)), 0, 0) := rfl
theorem rlL_add : ∀ (a : List am_V) (w : List am_C), prL_add a w → a.length ≤ 3 := by
  rintro a w ⟨r, t, m, y, x, c, u, g, rfl, rfl, hp⟩
  exact Nat.le_of_ble_eq_true rfl
set_option maxRecDepth 100000 in
set_option maxHeartbeats 4000000 in
theorem sgL_add (r : qt6) (t : qt6) (m : qt2) (y : qt0) (x : qt5) (c : qt1) (u : qt6) (g : Nat → Int32) (hp : wp9_add r t m y x c u) : am_sg (am_mk kbL_add 0 0 28) [6] (0, (am_L0 [.inr (.inl 0), .inr (.inl 27)] 3), [], kw_HO r t m y x c u g, 0, 0) (6, (am_L0 [.inr (.inl 0), .inr (.inl 27)] 3), [.inl ((fn9_add r t m y x c u).1), .inl 0, .inr (.inl 27)], kw_HO ((fn9_add r t m y x c u).2.1) ((fn9_add r t m y x c u).2.2.1) m ((fn9_add r t m y x c u).2.2.2) x c u g, 0, 0) := by
  refine am_sg_of fun kt hk => ?_
  refine am_cy (pre := pr9_add) (f := fm9_add) (a' := [.inr (.inl 0)]) (wc := kw_H r t m y x c u) (w' := kw_HO ((fn9_add r t m y x c u).2.1) ((fn9_add r t m y x c u).2.2.1) m ((fn9_add r t m y x c u).2.2.2) x c u g) (r := (some (.inl ((fn9_add r t m y x c u).1)), kw_H ((fn9_add r t m y x c u).2.1) ((fn9_add r t m y x c u).2.2.1) m ((fn9_add r t m y x c u).2.2.2) x c u, 0, 0)) ?_ ?_ ?_ ?_ ?_ ?_ ?_ ?_ ?_ ?_
  · exact ko_o r t m y x c u g
  · rfl
  · rfl
  · exact ko_s r t m y x c u g
  · exact ⟨r, t, m, y, x, c, u, rfl, rfl, hp⟩
  · exact fe9_add r t m y x c u
  · rfl
  · rfl
  · exact ko_m r t m y x c u g ((fn9_add r t m y x c u).2.1) ((fn9_add r t m y x c u).2.2.1) m ((fn9_add r t m y x c u).2.2.2) x c u
  exact hk
set_option maxRecDepth 100000 in
set_option maxHeartbeats 4000000 in
theorem evL_add (L : List (Option am_V)) (w : List am_C) : am_ev (am_mk kbL_add 0 0 28) [] 1 (8, L, [], w, 0, 0) = some (some (.inl 0), w) := rfl
set_option maxRecDepth 100000 in
set_option maxHeartbeats 4000000 in
theorem kmL_add {l : Launch} {E : (Nat → Prop) → State → Prop} {D : va_G} {ou : Nat → Nat} {ca : Nat → ClassId} (hE : hg_E E ou) : hg_MetW l E D ou ca hyL_add method_3_code 3 hhL_add 7 prL_add fmL_add := by
  refine am_metW (nt := 5) (by decide +kernel) rfl (hg_tys_ok ca) (fun t ht => List.mem_cons_of_mem _ (hg_arr t ht)) (by decide) rlL_add ?_
  rintro a w ⟨r, t, m, y, x, c, u, g, rfl, rfl, hp⟩ ad p e R s mm args below meth cd hadm hR X hEs hnm hret hlk hhd
  rw [feL_add] at hR ⊢
  have hR1 : 7 ≤ R.frames ∧ 280 ≤ R.locals := by rw [hR]; exact ⟨Nat.le_refl _, Nat.le_refl _⟩
  have Y : am_TK p l e R s mm args below meth cd method_3_code hyL_add.cls (Cond.codeWith hyL_add method_3_code 3 (some .int) hhL_add :: gw_all) D hn_cl (va_A (am_w ad ou ca (kw_HO r t m y x c u g)) s.heap.size) ou ca 3 5 (am_mk kbL_add 0 0 28) := by
    refine ⟨kdL_add_ok, fun index ci fi mode hq => (am_no hq).elim, fun index ci fs hq => (am_no hq).elim, fun x v hq => (am_no hq).elim, ?_, fun o t n f hq => (am_no hq).elim, rfl, rfl, by rw [hR]; exact Nat.le_refl _, by rw [hR]; exact Nat.le_refl _⟩
    intro pc sel n0 pre0 f0 hq
    have hz : ∀ q ∈ kiL_add, am_CK p l e R s mm args below meth cd D hn_cl (va_A (am_w ad ou ca (kw_HO r t m y x c u g)) s.heap.size) ou ca 3 q.1 q.2.2.1 q.2.2.2.1 q.2.2.2.2 := am_allc (am_ck_V (n := 0) X hEs hE.1 (km9_add hE) (hg_good (gw_mem 596 (by decide +kernel))) rfl (List.mem_cons_of_mem _ (gw_mem 68 (by decide +kernel))) (List.mem_cons_of_mem _ (gw_mem 593 (by decide +kernel))) (List.mem_cons_of_mem _ (gw_mem 594 (by decide +kernel))) (List.mem_cons_of_mem _ (gw_mem 595 (by decide +kernel))) pa9_add (by decide +kernel) ⟨Nat.le_trans (by decide) hR1.1, Nat.le_trans (by decide) hR1.2⟩ (kdL_add_ok (3, .invokevirtual 7, 3) (List.mem_of_getElem? (i := 3) rfl))) am_all0
    exact hz _ (am_as_mem hq)
  refine am_sg_ok (ad0 := ad) X Y rfl (sgL_add r t m y x c u g hp) (fun ad1 had1 => ?_) ad (fun _ _ => rfl)
  refine am_o_last X (by decide) (kdL_add_ok (6, .i2l, 1) (List.mem_of_getElem? (i := 4) rfl)) (kdL_add_ok (7, .lastore, 1) (List.mem_of_getElem? (i := 5) rfl)) rfl rfl ?_
  exact am_ev_ok X Y (fun i len pc L S w2 k j hd hr2 ad' had => am_ret_ok (T := (am_mk kbL_add 0 0 28)) (ad0 := ad) X hret hlk hd hr2 had) 1 _ (evL_add _ _) ad1 had1
abbrev prL_add_21 : List am_V → List am_C → Prop := fun a w => ∃ (r : qt6) (t : qt6) (m : qt2) (y : qt0) (x : qt5) (c : qt1) (u : qt6) (g : Nat → Int32), a = [.inr (.inl 0), .inr (.inl 27)] ∧ w = kw_HO r t m y x c u g ∧ wt9_add_21 r t m y x c u
noncomputable def fmL_add_21 : am_M := fun a w => (fun (r : qt6) (t : qt6) (m : qt2) (y : qt0) (x : qt5) (c : qt1) (u : qt6) (g : Nat → Int32) => (some (.inl 1), kw_HO r t m y x c u g, 1, 6)) (qs6 w 1) (qs6 w 3) (qs2 w 5) (qs0 w 10) (qs5 w 15) (qs1 w 23) (qs6 w 25) (am_ga w 27)
set_option maxRecDepth 100000 in
set_option maxHeartbeats 4000000 in
theorem feL_add_21 (r : qt6) (t : qt6) (m : qt2) (y : qt0) (x : qt5) (c : qt1) (u : qt6) (g : Nat → Int32) : fmL_add_21 [.inr (.inl 0), .inr (.inl 27)] (kw_HO r t m y x c u g) = (some (.inl 1), kw_HO r t m y x c u g, 1, 6) := rfl
theorem rlL_add_21 : ∀ (a : List am_V) (w : List am_C), prL_add_21 a w → a.length ≤ 3 := by
  rintro a w ⟨r, t, m, y, x, c, u, g, rfl, rfl, hp⟩
  exact Nat.le_of_ble_eq_true rfl
set_option maxRecDepth 100000 in
set_option maxHeartbeats 4000000 in
theorem sgL_add_21 (r : qt6) (t : qt6) (m : qt2) (y : qt0) (x : qt5) (c : qt1) (u : qt6) (g : Nat → Int32) : am_sg (am_mk kbL_add 1 6 28) [3] (0, (am_L0 [.inr (.inl 0), .inr (.inl 27)] 3), [], kw_HO r t m y x c u g, 0, 0) (3, (am_L0 [.inr (.inl 0), .inr (.inl 27)] 3), [.inr (.inl 0)].reverse ++ [.inl 0, .inr (.inl 27)], kw_HO r t m y x c u g, 0, 0) := by
  refine am_sg_of fun kt hk => ?_
  exact hk
set_option maxRecDepth 100000 in
set_option maxHeartbeats 4000000 in
theorem evL_add_21 (L : List (Option am_V)) (w : List am_C) : am_ev (am_mk kbL_add 1 6 28) [] 1 (12, L, [], w, 1, 6) = some (some (.inl 1), w) := rfl
set_option maxRecDepth 100000 in
set_option maxHeartbeats 4000000 in
theorem kmL_add_21 {l : Launch} {E : (Nat → Prop) → State → Prop} {D : va_G} {ou : Nat → Nat} {ca : Nat → ClassId} (hE : hg_E E ou) (hX : hx_E E) (hNo : hn_E E) (hl : ∀ e : Env, l.admits e → e.platform.stackTraces = false) : hg_MetW l E D ou ca hyL_add method_3_code 3 hhL_add 7 prL_add_21 fmL_add_21 := by
  refine am_metW (nt := 5) (by decide +kernel) rfl (hg_tys_ok ca) (fun t ht => List.mem_cons_of_mem _ (hg_arr t ht)) (by decide) rlL_add_21 ?_
  rintro a w ⟨r, t, m, y, x, c, u, g, rfl, rfl, hp⟩ ad p e R s mm args below meth cd hadm hR X hEs hnm hret hlk hhd
  rw [feL_add_21] at hR ⊢
  have hR1 : 7 ≤ R.frames ∧ 280 ≤ R.locals := by rw [hR]; exact ⟨Nat.le_refl _, Nat.le_refl _⟩
  have hpl : e.platform.magicAccessors = ({} : Platform).magicAccessors := by rw [hadm.platform]
  have Y : am_TK p l e R s mm args below meth cd method_3_code hyL_add.cls (Cond.codeWith hyL_add method_3_code 3 (some .int) hhL_add :: gw_all) D hn_cl (va_A (am_w ad ou ca (kw_HO r t m y x c u g)) s.heap.size) ou ca 3 5 (am_mk kbL_add 1 6 28) := by
    refine ⟨kdL_add_ok, fun index ci fi mode hq => (am_no hq).elim, fun index ci fs hq => (am_no hq).elim, fun x v hq => (am_no hq).elim, ?_, fun o t n f hq => (am_no hq).elim, rfl, rfl, by rw [hR]; exact Nat.le_refl _, by rw [hR]; exact Nat.le_refl _⟩
    intro pc sel n0 pre0 f0 hq
    have hz : ∀ q ∈ kiL_add, am_CK p l e R s mm args below meth cd D hn_cl (va_A (am_w ad ou ca (kw_HO r t m y x c u g)) s.heap.size) ou ca 3 q.1 q.2.2.1 q.2.2.2.1 q.2.2.2.2 := am_allc (am_ck_V (n := 0) X hEs hE.1 (km9_add hE) (hg_good (gw_mem 596 (by decide +kernel))) rfl (List.mem_cons_of_mem _ (gw_mem 68 (by decide +kernel))) (List.mem_cons_of_mem _ (gw_mem 593 (by decide +kernel))) (List.mem_cons_of_mem _ (gw_mem 594 (by decide +kernel))) (List.mem_cons_of_mem _ (gw_mem 595 (by decide +kernel))) pa9_add (by decide +kernel) ⟨Nat.le_trans (by decide) hR1.1, Nat.le_trans (by decide) hR1.2⟩ (kdL_add_ok (3, .invokevirtual 7, 3) (List.mem_of_getElem? (i := 3) rfl))) am_all0
    exact hz _ (am_as_mem hq)
  refine am_sg_ok (ad0 := ad) X Y rfl (sgL_add_21 r t m y x c u g) (fun ad1 had1 => ?_) ad (fun _ _ => rfl)
  refine am_o_cat (n0 := 28) (sel := [0, 1, 2, 3, 4, 5, 6, 7, 8, 9, 10, 11, 12, 13, 14, 15, 16, 17, 18, 19, 20, 21, 22, 23, 24, 25, 26]) (pre := pt9_add_21) (f := ft9_add_21) (w1 := kw_H r t m y x c u) (x := 2) X (am_ct_V (n := 0) (hpc := 11) X hEs hE.1 (kt9_add_21 hE hX hl) (hg_good (gw_mem 596 (by decide +kernel))) rfl (List.mem_cons_of_mem _ (gw_mem 68 (by decide +kernel))) (List.mem_cons_of_mem _ (gw_mem 593 (by decide +kernel))) (List.mem_cons_of_mem _ (gw_mem 594 (by decide +kernel))) (List.mem_cons_of_mem _ (gw_mem 595 (by decide +kernel))) pb9_add_21 (by decide +kernel) ⟨Nat.le_trans (by decide) hR1.1, Nat.le_trans (by decide) hR1.2⟩ (kdL_add_ok (3, .invokevirtual 7, 3) (List.mem_of_getElem? (i := 3) rfl)) (fun S ls rest x9 ce hW hc hv hfc => hc_w1 (own := "HoleTemplatesLaw") (args := args) (C := "java/lang/IllegalStateException") hpl hW X.2.2.2.1 hhd (Nat.zero_le _) (by show 3 < 8; decide) (by decide) (X.2.2.2.2.1 _ (List.mem_cons_of_mem _ (gw_mem 592 (by decide +kernel)))) hc hv hfc (hx_self hX hEs (q := (63, 59, "java/lang/IllegalStateException")) (List.mem_of_getElem? (i := 0) rfl) hfc))) rfl (ko_o r t m y x c u g) rfl ⟨r, t, m, y, x, c, u, rfl, rfl, hp⟩ (gt9_add_21 r t m y x c u) rfl (by decide) (by rw [hR]; exact Nat.le_refl _) (by rw [hR]; exact Nat.le_refl _) (kdL_add_ok (11, .astore_n 2, 1) (List.mem_of_getElem? (i := 7) rfl)) (by decide) (fun v9 h9 => by cases h9) (fun ad2 had2 => ?_)
  exact am_ev_ok X Y (fun i len pc L S w2 k j hd hr2 ad' had => am_ret_ok (T := (am_mk kbL_add 1 6 28)) (ad0 := ad) X hret hlk hd hr2 had) 1 _ (evL_add_21 _ _) ad2 (fun i hi => (had2 i hi).trans (had1 i hi))
def kdL_compile : List (Nat × Instr × Nat) := [(0, .aload_n 1, 1), (1, .iconst 0, 1), (2, .aload_n 0, 1), (3, .invokevirtual 15, 3), (6, .i2l, 1), (7, .lastore, 1), (8, .goto 6, 3), (11, .astore_n 2, 1), (12, .iconst 1, 1), (13, .ireturn, 1), (14, .iconst 0, 1), (15, .ireturn, 1)]
theorem kdL_compile_ok : ∀ q ∈ kdL_compile, decode method_4_code q.1 = .ok q.2 := by decide +kernel
def hyL_compile : MethodName := ⟨"HoleTemplatesLaw", "compile", "(LHoleTemplates;[J)I"⟩
abbrev hhL_compile : List (Nat × Nat × Nat × Nat) := [(0, 8, 11, 18)]
noncomputable def kiL_compile : List (Nat × Option (List Nat) × Nat × (List am_V → List am_C → Prop) × am_M) := [(3, some [0, 1, 2, 3, 4, 5, 6, 7, 8, 9, 10, 11, 12, 13, 14, 15, 16, 17, 18, 19, 20, 21, 22, 23, 24, 25, 26], 1, pr9_compile, fm9_compile)]
noncomputable def kbL_compile : am_B := (kdL_compile, fun _ => none, hn_ty, fun _ => none, fun _ => none, am_as kiL_compile, fun _ => none, 5, 3, (some .int))
abbrev prL_compile : List am_V → List am_C → Prop := fun a w => ∃ (r : qt6) (t : qt6) (m : qt2) (y : qt0) (x : qt5) (c : qt1) (u : qt6) (g : Nat → Int32), a = [.inr (.inl 0), .inr (.inl 27)] ∧ w = kw_HO r t m y x c u g ∧ wp9_compile r t m y x c u
noncomputable def fmL_compile : am_M := fun a w => (fun (r : qt6) (t : qt6) (m : qt2) (y : qt0) (x : qt5) (c : qt1) (u : qt6) (g : Nat → Int32) => (some (.inl 0), kw_HO r t m ((fn9_compile r t m y x c u).2.1) ((fn9_compile r t m y x c u).2.2.1) ((fn9_compile r t m y x c u).2.2.2) u (upd g 0 ((fn9_compile r t m y x c u).1)), 0, 0)) (qs6 w 1) (qs6 w 3) (qs2 w 5) (qs0 w 10) (qs5 w 15) (qs1 w 23) (qs6 w 25) (am_ga w 27)
set_option maxRecDepth 100000 in
set_option maxHeartbeats 4000000 in
theorem feL_compile (r : qt6) (t : qt6) (m : qt2) (y : qt0) (x : qt5) (c : qt1) (u : qt6) (g : Nat → Int32) : fmL_compile [.inr (.inl 0), .inr (.inl 27)] (kw_HO r t m y x c u g) = (some (.inl 0), kw_HO r t m ((fn9_compile r t m y x c u).2.1) ((fn9_compile r t m y x c u).2.2.1) ((fn9_compile r t m y x c u).2.2.2) u (upd g 0 ((fn9_compile r t m y x c u).1)), 0, 0) := rfl
theorem rlL_compile : ∀ (a : List am_V) (w : List am_C), prL_compile a w → a.length ≤ 3 := by
  rintro a w ⟨r, t, m, y, x, c, u, g, rfl, rfl, hp⟩
  exact Nat.le_of_ble_eq_true rfl
set_option maxRecDepth 100000 in
set_option maxHeartbeats 4000000 in
theorem sgL_compile (r : qt6) (t : qt6) (m : qt2) (y : qt0) (x : qt5) (c : qt1) (u : qt6) (g : Nat → Int32) (hp : wp9_compile r t m y x c u) : am_sg (am_mk kbL_compile 0 0 28) [6] (0, (am_L0 [.inr (.inl 0), .inr (.inl 27)] 3), [], kw_HO r t m y x c u g, 0, 0) (6, (am_L0 [.inr (.inl 0), .inr (.inl 27)] 3), [.inl ((fn9_compile r t m y x c u).1), .inl 0, .inr (.inl 27)], kw_HO r t m ((fn9_compile r t m y x c u).2.1) ((fn9_compile r t m y x c u).2.2.1) ((fn9_compile r t m y x c u).2.2.2) u g, 0, 0) := by
  refine am_sg_of fun kt hk => ?_
  refine am_cy (pre := pr9_compile) (f := fm9_compile) (a' := [.inr (.inl 0)]) (wc := kw_H r t m y x c u) (w' := kw_HO r t m ((fn9_compile r t m y x c u).2.1) ((fn9_compile r t m y x c u).2.2.1) ((fn9_compile r t m y x c u).2.2.2) u g) (r := (some (.inl ((fn9_compile r t m y x c u).1)), kw_H r t m ((fn9_compile r t m y x c u).2.1) ((fn9_compile r t m y x c u).2.2.1) ((fn9_compile r t m y x c u).2.2.2) u, 0, 0)) ?_ ?_ ?_ ?_ ?_ ?_ ?_ ?_ ?_ ?_
  · exact ko_o r t m y x c u g
  · rfl
  · rfl
  · exact ko_s r t m y x c u g
  · exact ⟨r, t, m, y, x, c, u, rfl, rfl, hp⟩
  · exact fe9_compile r t m y x c u
  · rfl
  · rfl
  · exact ko_m r t m y x c u g r t m ((fn9_compile r t m y x c u).2.1) ((fn9_compile r t m y x c u).2.2.1) ((fn9_compile r t m y x c u).2.2.2) u
  exact hk
set_option maxRecDepth 100000 in
set_option maxHeartbeats 4000000 in
theorem evL_compile (L : List (Option am_V)) (w : List am_C) : am_ev (am_mk kbL_compile 0 0 28) [] 1 (8, L, [], w, 0, 0) = some (some (.inl 0), w) := rfl
set_option maxRecDepth 100000 in
set_option maxHeartbeats 4000000 in
theorem kmL_compile {l : Launch} {E : (Nat → Prop) → State → Prop} {D : va_G} {ou : Nat → Nat} {ca : Nat → ClassId} (hE : hg_E E ou) : hg_MetW l E D ou ca hyL_compile method_4_code 3 hhL_compile 11 prL_compile fmL_compile := by
  refine am_metW (nt := 5) (by decide +kernel) rfl (hg_tys_ok ca) (fun t ht => List.mem_cons_of_mem _ (hg_arr t ht)) (by decide) rlL_compile ?_
  rintro a w ⟨r, t, m, y, x, c, u, g, rfl, rfl, hp⟩ ad p e R s mm args below meth cd hadm hR X hEs hnm hret hlk hhd
  rw [feL_compile] at hR ⊢
  have hR1 : 11 ≤ R.frames ∧ 440 ≤ R.locals := by rw [hR]; exact ⟨Nat.le_refl _, Nat.le_refl _⟩
  have Y : am_TK p l e R s mm args below meth cd method_4_code hyL_compile.cls (Cond.codeWith hyL_compile method_4_code 3 (some .int) hhL_compile :: gw_all) D hn_cl (va_A (am_w ad ou ca (kw_HO r t m y x c u g)) s.heap.size) ou ca 3 5 (am_mk kbL_compile 0 0 28) := by
    refine ⟨kdL_compile_ok, fun index ci fi mode hq => (am_no hq).elim, fun index ci fs hq => (am_no hq).elim, fun x v hq => (am_no hq).elim, ?_, fun o t n f hq => (am_no hq).elim, rfl, rfl, by rw [hR]; exact Nat.le_refl _, by rw [hR]; exact Nat.le_refl _⟩
    intro pc sel n0 pre0 f0 hq
    have hz : ∀ q ∈ kiL_compile, am_CK p l e R s mm args below meth cd D hn_cl (va_A (am_w ad ou ca (kw_HO r t m y x c u g)) s.heap.size) ou ca 3 q.1 q.2.2.1 q.2.2.2.1 q.2.2.2.2 := am_allc (am_ck_V (n := 0) X hEs hE.1 (km9_compile hE) (hg_good (gw_mem 672 (by decide +kernel))) rfl (List.mem_cons_of_mem _ (gw_mem 68 (by decide +kernel))) (List.mem_cons_of_mem _ (gw_mem 669 (by decide +kernel))) (List.mem_cons_of_mem _ (gw_mem 670 (by decide +kernel))) (List.mem_cons_of_mem _ (gw_mem 671 (by decide +kernel))) pa9_compile (by decide +kernel) ⟨Nat.le_trans (by decide) hR1.1, Nat.le_trans (by decide) hR1.2⟩ (kdL_compile_ok (3, .invokevirtual 15, 3) (List.mem_of_getElem? (i := 3) rfl))) am_all0
    exact hz _ (am_as_mem hq)
  refine am_sg_ok (ad0 := ad) X Y rfl (sgL_compile r t m y x c u g hp) (fun ad1 had1 => ?_) ad (fun _ _ => rfl)
  refine am_o_last X (by decide) (kdL_compile_ok (6, .i2l, 1) (List.mem_of_getElem? (i := 4) rfl)) (kdL_compile_ok (7, .lastore, 1) (List.mem_of_getElem? (i := 5) rfl)) rfl rfl ?_
  exact am_ev_ok X Y (fun i len pc L S w2 k j hd hr2 ad' had => am_ret_ok (T := (am_mk kbL_compile 0 0 28)) (ad0 := ad) X hret hlk hd hr2 had) 1 _ (evL_compile _ _) ad1 had1
abbrev prL_compile_14 : List am_V → List am_C → Prop := fun a w => ∃ (r : qt6) (t : qt6) (m : qt2) (y : qt0) (x : qt5) (c : qt1) (u : qt6) (g : Nat → Int32), a = [.inr (.inl 0), .inr (.inl 27)] ∧ w = kw_HO r t m y x c u g ∧ wt9_compile_14 r t m y x c u
noncomputable def fmL_compile_14 : am_M := fun a w => (fun (r : qt6) (t : qt6) (m : qt2) (y : qt0) (x : qt5) (c : qt1) (u : qt6) (g : Nat → Int32) => (some (.inl 1), kw_HO r t m ((fn0_reads y x c t).2.1) ((fn0_reads y x c t).2.2.1) ((fn0_reads y x c t).2.2.2) u g, 1, 6)) (qs6 w 1) (qs6 w 3) (qs2 w 5) (qs0 w 10) (qs5 w 15) (qs1 w 23) (qs6 w 25) (am_ga w 27)
set_option maxRecDepth 100000 in
set_option maxHeartbeats 4000000 in
theorem feL_compile_14 (r : qt6) (t : qt6) (m : qt2) (y : qt0) (x : qt5) (c : qt1) (u : qt6) (g : Nat → Int32) : fmL_compile_14 [.inr (.inl 0), .inr (.inl 27)] (kw_HO r t m y x c u g) = (some (.inl 1), kw_HO r t m ((fn0_reads y x c t).2.1) ((fn0_reads y x c t).2.2.1) ((fn0_reads y x c t).2.2.2) u g, 1, 6) := rfl
theorem rlL_compile_14 : ∀ (a : List am_V) (w : List am_C), prL_compile_14 a w → a.length ≤ 3 := by
  rintro a w ⟨r, t, m, y, x, c, u, g, rfl, rfl, hp⟩
  exact Nat.le_of_ble_eq_true rfl
set_option maxRecDepth 100000 in
set_option maxHeartbeats 4000000 in
theorem sgL_compile_14 (r : qt6) (t : qt6) (m : qt2) (y : qt0) (x : qt5) (c : qt1) (u : qt6) (g : Nat → Int32) : am_sg (am_mk kbL_compile 1 6 28) [3] (0, (am_L0 [.inr (.inl 0), .inr (.inl 27)] 3), [], kw_HO r t m y x c u g, 0, 0) (3, (am_L0 [.inr (.inl 0), .inr (.inl 27)] 3), [.inr (.inl 0)].reverse ++ [.inl 0, .inr (.inl 27)], kw_HO r t m y x c u g, 0, 0) := by
  refine am_sg_of fun kt hk => ?_
  exact hk
set_option maxRecDepth 100000 in
set_option maxHeartbeats 4000000 in
theorem evL_compile_14 (L : List (Option am_V)) (w : List am_C) : am_ev (am_mk kbL_compile 1 6 28) [] 1 (12, L, [], w, 1, 6) = some (some (.inl 1), w) := rfl
set_option maxRecDepth 100000 in
set_option maxHeartbeats 4000000 in
theorem kmL_compile_14 {l : Launch} {E : (Nat → Prop) → State → Prop} {D : va_G} {ou : Nat → Nat} {ca : Nat → ClassId} (hE : hg_E E ou) (hX : hx_E E) (hNo : hn_E E) (hl : ∀ e : Env, l.admits e → e.platform.stackTraces = false) : hg_MetW l E D ou ca hyL_compile method_4_code 3 hhL_compile 11 prL_compile_14 fmL_compile_14 := by
  refine am_metW (nt := 5) (by decide +kernel) rfl (hg_tys_ok ca) (fun t ht => List.mem_cons_of_mem _ (hg_arr t ht)) (by decide) rlL_compile_14 ?_
  rintro a w ⟨r, t, m, y, x, c, u, g, rfl, rfl, hp⟩ ad p e R s mm args below meth cd hadm hR X hEs hnm hret hlk hhd
  rw [feL_compile_14] at hR ⊢
  have hR1 : 11 ≤ R.frames ∧ 440 ≤ R.locals := by rw [hR]; exact ⟨Nat.le_refl _, Nat.le_refl _⟩
  have hpl : e.platform.magicAccessors = ({} : Platform).magicAccessors := by rw [hadm.platform]
  have Y : am_TK p l e R s mm args below meth cd method_4_code hyL_compile.cls (Cond.codeWith hyL_compile method_4_code 3 (some .int) hhL_compile :: gw_all) D hn_cl (va_A (am_w ad ou ca (kw_HO r t m y x c u g)) s.heap.size) ou ca 3 5 (am_mk kbL_compile 1 6 28) := by
    refine ⟨kdL_compile_ok, fun index ci fi mode hq => (am_no hq).elim, fun index ci fs hq => (am_no hq).elim, fun x v hq => (am_no hq).elim, ?_, fun o t n f hq => (am_no hq).elim, rfl, rfl, by rw [hR]; exact Nat.le_refl _, by rw [hR]; exact Nat.le_refl _⟩
    intro pc sel n0 pre0 f0 hq
    have hz : ∀ q ∈ kiL_compile, am_CK p l e R s mm args below meth cd D hn_cl (va_A (am_w ad ou ca (kw_HO r t m y x c u g)) s.heap.size) ou ca 3 q.1 q.2.2.1 q.2.2.2.1 q.2.2.2.2 := am_allc (am_ck_V (n := 0) X hEs hE.1 (km9_compile hE) (hg_good (gw_mem 672 (by decide +kernel))) rfl (List.mem_cons_of_mem _ (gw_mem 68 (by decide +kernel))) (List.mem_cons_of_mem _ (gw_mem 669 (by decide +kernel))) (List.mem_cons_of_mem _ (gw_mem 670 (by decide +kernel))) (List.mem_cons_of_mem _ (gw_mem 671 (by decide +kernel))) pa9_compile (by decide +kernel) ⟨Nat.le_trans (by decide) hR1.1, Nat.le_trans (by decide) hR1.2⟩ (kdL_compile_ok (3, .invokevirtual 15, 3) (List.mem_of_getElem? (i := 3) rfl))) am_all0
    exact hz _ (am_as_mem hq)
  refine am_sg_ok (ad0 := ad) X Y rfl (sgL_compile_14 r t m y x c u g) (fun ad1 had1 => ?_) ad (fun _ _ => rfl)
  refine am_o_cat (n0 := 28) (sel := [0, 1, 2, 3, 4, 5, 6, 7, 8, 9, 10, 11, 12, 13, 14, 15, 16, 17, 18, 19, 20, 21, 22, 23, 24, 25, 26]) (pre := pt9_compile_14) (f := ft9_compile_14) (w1 := kw_H r t m ((fn0_reads y x c t).2.1) ((fn0_reads y x c t).2.2.1) ((fn0_reads y x c t).2.2.2) u) (x := 2) X (am_ct_V (n := 0) (hpc := 11) X hEs hE.1 (kt9_compile_14 hE hX hl) (hg_good (gw_mem 672 (by decide +kernel))) rfl (List.mem_cons_of_mem _ (gw_mem 68 (by decide +kernel))) (List.mem_cons_of_mem _ (gw_mem 669 (by decide +kernel))) (List.mem_cons_of_mem _ (gw_mem 670 (by decide +kernel))) (List.mem_cons_of_mem _ (gw_mem 671 (by decide +kernel))) pb9_compile_14 (by decide +kernel) ⟨Nat.le_trans (by decide) hR1.1, Nat.le_trans (by decide) hR1.2⟩ (kdL_compile_ok (3, .invokevirtual 15, 3) (List.mem_of_getElem? (i := 3) rfl)) (fun S ls rest x9 ce hW hc hv hfc => hc_w1 (own := "HoleTemplatesLaw") (args := args) (C := "java/lang/IllegalArgumentException") hpl hW X.2.2.2.1 hhd (Nat.zero_le _) (by show 3 < 8; decide) (by decide) (X.2.2.2.2.1 _ (List.mem_cons_of_mem _ (gw_mem 668 (by decide +kernel)))) hc hv hfc (hx_self hX hEs (q := (82, 78, "java/lang/IllegalArgumentException")) (List.mem_of_getElem? (i := 1) rfl) hfc))) rfl (ko_o r t m y x c u g) rfl ⟨r, t, m, y, x, c, u, rfl, rfl, hp⟩ (gt9_compile_14 r t m y x c u) rfl (by decide) (by rw [hR]; exact Nat.le_refl _) (by rw [hR]; exact Nat.le_refl _) (kdL_compile_ok (11, .astore_n 2, 1) (List.mem_of_getElem? (i := 7) rfl)) (by decide) (fun v9 h9 => by cases h9) (fun ad2 had2 => ?_)
  exact am_ev_ok X Y (fun i len pc L S w2 k j hd hr2 ad' had => am_ret_ok (T := (am_mk kbL_compile 1 6 28)) (ad0 := ad) X hret hlk hd hr2 had) 1 _ (evL_compile_14 _ _) ad2 (fun i hi => (had2 i hi).trans (had1 i hi))
def kdL_item : List (Nat × Instr × Nat) := [(0, .aload_n 2, 1), (1, .iconst 0, 1), (2, .aload_n 0, 1), (3, .iload_n 1, 1), (4, .invokevirtual 20, 3), (7, .i2l, 1), (8, .lastore, 1), (9, .goto 9, 3), (12, .astore_n 3, 1), (13, .iconst 1, 1), (14, .ireturn, 1), (15, .astore_n 3, 1), (16, .iconst 2, 1), (17, .ireturn, 1), (18, .iconst 0, 1), (19, .ireturn, 1)]
theorem kdL_item_ok : ∀ q ∈ kdL_item, decode method_5_code q.1 = .ok q.2 := by decide +kernel
def hyL_item : MethodName := ⟨"HoleTemplatesLaw", "item", "(LHoleTemplates;I[J)I"⟩
abbrev hhL_item : List (Nat × Nat × Nat × Nat) := [(0, 9, 12, 24), (0, 9, 15, 13)]
noncomputable def kiL_item : List (Nat × Option (List Nat) × Nat × (List am_V → List am_C → Prop) × am_M) := [(4, some [0, 1, 2, 3, 4, 5, 6, 7, 8, 9, 10, 11, 12, 13, 14, 15, 16, 17, 18, 19, 20, 21, 22, 23, 24, 25, 26], 2, pr9_item, fm9_item)]
noncomputable def kbL_item : am_B := (kdL_item, fun _ => none, hn_ty, fun _ => none, fun _ => none, am_as kiL_item, fun _ => none, 5, 4, (some .int))
abbrev prL_item : List am_V → List am_C → Prop := fun a w => ∃ (r : qt6) (t : qt6) (m : qt2) (y : qt0) (x : qt5) (c : qt1) (u : qt6) (g : Nat → Int32) (p0 : Int32), a = [.inr (.inl 0), .inl p0, .inr (.inl 27)] ∧ w = kw_HO r t m y x c u g ∧ wp9_item r t m y x c u p0
noncomputable def fmL_item : am_M := fun a w => (fun (r : qt6) (t : qt6) (m : qt2) (y : qt0) (x : qt5) (c : qt1) (u : qt6) (g : Nat → Int32) (p0 : Int32) => (some (.inl 0), kw_HO ((fn9_item r t m y x c u p0).2.1) t ((fn9_item r t m y x c u p0).2.2) y x c u (upd g 0 ((fn9_item r t m y x c u p0).1)), 0, 0)) (qs6 w 1) (qs6 w 3) (qs2 w 5) (qs0 w 10) (qs5 w 15) (qs1 w 23) (qs6 w 25) (am_ga w 27) (am_i (am_an a 1))
set_option maxRecDepth 100000 in
set_option maxHeartbeats 4000000 in
theorem feL_item (r : qt6) (t : qt6) (m : qt2) (y : qt0) (x : qt5) (c : qt1) (u : qt6) (g : Nat → Int32) (p0 : Int32) : fmL_item [.inr (.inl 0), .inl p0, .inr (.inl 27)] (kw_HO r t m y x c u g) = (some (.inl 0), kw_HO ((fn9_item r t m y x c u p0).2.1) t ((fn9_item r t m y x c u p0).2.2) y x c u (upd g 0 ((fn9_item r t m y x c u p0).1)), 0, 0) := rfl
theorem rlL_item : ∀ (a : List am_V) (w : List am_C), prL_item a w → a.length ≤ 4 := by
  rintro a w ⟨r, t, m, y, x, c, u, g, p0, rfl, rfl, hp⟩
  exact Nat.le_of_ble_eq_true rfl
set_option maxRecDepth 100000 in
set_option maxHeartbeats 4000000 in
theorem sgL_item (r : qt6) (t : qt6) (m : qt2) (y : qt0) (x : qt5) (c : qt1) (u : qt6) (g : Nat → Int32) (p0 : Int32) (hp : wp9_item r t m y x c u p0) : am_sg (am_mk kbL_item 0 0 28) [7] (0, (am_L0 [.inr (.inl 0), .inl p0, .inr (.inl 27)] 4), [], kw_HO r t m y x c u g, 0, 0) (7, (am_L0 [.inr (.inl 0), .inl p0, .inr (.inl 27)] 4), [.inl ((fn9_item r t m y x c u p0).1), .inl 0, .inr (.inl 27)], kw_HO ((fn9_item r t m y x c u p0).2.1) t ((fn9_item r t m y x c u p0).2.2) y x c u g, 0, 0) := by
  refine am_sg_of fun kt hk => ?_
  refine am_cy (pre := pr9_item) (f := fm9_item) (a' := [.inr (.inl 0), .inl p0]) (wc := kw_H r t m y x c u) (w' := kw_HO ((fn9_item r t m y x c u p0).2.1) t ((fn9_item r t m y x c u p0).2.2) y x c u g) (r := (some (.inl ((fn9_item r t m y x c u p0).1)), kw_H ((fn9_item r t m y x c u p0).2.1) t ((fn9_item r t m y x c u p0).2.2) y x c u, 0, 0)) ?_ ?_ ?_ ?_ ?_ ?_ ?_ ?_ ?_ ?_
  · exact ko_o r t m y x c u g
  · rfl
  · rfl
  · exact ko_s r t m y x c u g
  · exact ⟨r, t, m, y, x, c, u, p0, rfl, rfl, hp⟩
  · exact fe9_item r t m y x c u p0
  · rfl
  · rfl
  · exact ko_m r t m y x c u g ((fn9_item r t m y x c u p0).2.1) t ((fn9_item r t m y x c u p0).2.2) y x c u
  exact hk
set_option maxRecDepth 100000 in
set_option maxHeartbeats 4000000 in
theorem evL_item (L : List (Option am_V)) (w : List am_C) : am_ev (am_mk kbL_item 0 0 28) [] 1 (9, L, [], w, 0, 0) = some (some (.inl 0), w) := rfl
set_option maxRecDepth 100000 in
set_option maxHeartbeats 4000000 in
theorem kmL_item {l : Launch} {E : (Nat → Prop) → State → Prop} {D : va_G} {ou : Nat → Nat} {ca : Nat → ClassId} (hE : hg_E E ou) : hg_MetW l E D ou ca hyL_item method_5_code 4 hhL_item 7 prL_item fmL_item := by
  refine am_metW (nt := 5) (by decide +kernel) rfl (hg_tys_ok ca) (fun t ht => List.mem_cons_of_mem _ (hg_arr t ht)) (by decide) rlL_item ?_
  rintro a w ⟨r, t, m, y, x, c, u, g, p0, rfl, rfl, hp⟩ ad p e R s mm args below meth cd hadm hR X hEs hnm hret hlk hhd
  rw [feL_item] at hR ⊢
  have hR1 : 7 ≤ R.frames ∧ 280 ≤ R.locals := by rw [hR]; exact ⟨Nat.le_refl _, Nat.le_refl _⟩
  have Y : am_TK p l e R s mm args below meth cd method_5_code hyL_item.cls (Cond.codeWith hyL_item method_5_code 4 (some .int) hhL_item :: gw_all) D hn_cl (va_A (am_w ad ou ca (kw_HO r t m y x c u g)) s.heap.size) ou ca 4 5 (am_mk kbL_item 0 0 28) := by
    refine ⟨kdL_item_ok, fun index ci fi mode hq => (am_no hq).elim, fun index ci fs hq => (am_no hq).elim, fun x v hq => (am_no hq).elim, ?_, fun o t n f hq => (am_no hq).elim, rfl, rfl, by rw [hR]; exact Nat.le_refl _, by rw [hR]; exact Nat.le_refl _⟩
    intro pc sel n0 pre0 f0 hq
    have hz : ∀ q ∈ kiL_item, am_CK p l e R s mm args below meth cd D hn_cl (va_A (am_w ad ou ca (kw_HO r t m y x c u g)) s.heap.size) ou ca 4 q.1 q.2.2.1 q.2.2.2.1 q.2.2.2.2 := am_allc (am_ck_V (n := 1) X hEs hE.1 (km9_item hE) (hg_good (gw_mem 696 (by decide +kernel))) rfl (List.mem_cons_of_mem _ (gw_mem 68 (by decide +kernel))) (List.mem_cons_of_mem _ (gw_mem 693 (by decide +kernel))) (List.mem_cons_of_mem _ (gw_mem 694 (by decide +kernel))) (List.mem_cons_of_mem _ (gw_mem 695 (by decide +kernel))) pa9_item (by decide +kernel) ⟨Nat.le_trans (by decide) hR1.1, Nat.le_trans (by decide) hR1.2⟩ (kdL_item_ok (4, .invokevirtual 20, 3) (List.mem_of_getElem? (i := 4) rfl))) am_all0
    exact hz _ (am_as_mem hq)
  refine am_sg_ok (ad0 := ad) X Y rfl (sgL_item r t m y x c u g p0 hp) (fun ad1 had1 => ?_) ad (fun _ _ => rfl)
  refine am_o_last X (by decide) (kdL_item_ok (7, .i2l, 1) (List.mem_of_getElem? (i := 5) rfl)) (kdL_item_ok (8, .lastore, 1) (List.mem_of_getElem? (i := 6) rfl)) rfl rfl ?_
  exact am_ev_ok X Y (fun i len pc L S w2 k j hd hr2 ad' had => am_ret_ok (T := (am_mk kbL_item 0 0 28)) (ad0 := ad) X hret hlk hd hr2 had) 1 _ (evL_item _ _) ad1 had1
abbrev prL_item_11 : List am_V → List am_C → Prop := fun a w => ∃ (r : qt6) (t : qt6) (m : qt2) (y : qt0) (x : qt5) (c : qt1) (u : qt6) (g : Nat → Int32) (p0 : Int32), a = [.inr (.inl 0), .inl p0, .inr (.inl 27)] ∧ w = kw_HO r t m y x c u g ∧ wt9_item_11 r t m y x c u p0
noncomputable def fmL_item_11 : am_M := fun a w => (fun (r : qt6) (t : qt6) (m : qt2) (y : qt0) (x : qt5) (c : qt1) (u : qt6) (g : Nat → Int32) (p0 : Int32) => (some (.inl 1), kw_HO r t m y x c u g, 1, 6)) (qs6 w 1) (qs6 w 3) (qs2 w 5) (qs0 w 10) (qs5 w 15) (qs1 w 23) (qs6 w 25) (am_ga w 27) (am_i (am_an a 1))
set_option maxRecDepth 100000 in
set_option maxHeartbeats 4000000 in
theorem feL_item_11 (r : qt6) (t : qt6) (m : qt2) (y : qt0) (x : qt5) (c : qt1) (u : qt6) (g : Nat → Int32) (p0 : Int32) : fmL_item_11 [.inr (.inl 0), .inl p0, .inr (.inl 27)] (kw_HO r t m y x c u g) = (some (.inl 1), kw_HO r t m y x c u g, 1, 6) := rfl
theorem rlL_item_11 : ∀ (a : List am_V) (w : List am_C), prL_item_11 a w → a.length ≤ 4 := by
  rintro a w ⟨r, t, m, y, x, c, u, g, p0, rfl, rfl, hp⟩
  exact Nat.le_of_ble_eq_true rfl
set_option maxRecDepth 100000 in
set_option maxHeartbeats 4000000 in
theorem sgL_item_11 (r : qt6) (t : qt6) (m : qt2) (y : qt0) (x : qt5) (c : qt1) (u : qt6) (g : Nat → Int32) (p0 : Int32) : am_sg (am_mk kbL_item 1 6 28) [4] (0, (am_L0 [.inr (.inl 0), .inl p0, .inr (.inl 27)] 4), [], kw_HO r t m y x c u g, 0, 0) (4, (am_L0 [.inr (.inl 0), .inl p0, .inr (.inl 27)] 4), [.inr (.inl 0), .inl p0].reverse ++ [.inl 0, .inr (.inl 27)], kw_HO r t m y x c u g, 0, 0) := by
  refine am_sg_of fun kt hk => ?_
  exact hk
set_option maxRecDepth 100000 in
set_option maxHeartbeats 4000000 in
theorem evL_item_11 (L : List (Option am_V)) (w : List am_C) : am_ev (am_mk kbL_item 1 6 28) [] 1 (13, L, [], w, 1, 6) = some (some (.inl 1), w) := rfl
set_option maxRecDepth 100000 in
set_option maxHeartbeats 4000000 in
theorem kmL_item_11 {l : Launch} {E : (Nat → Prop) → State → Prop} {D : va_G} {ou : Nat → Nat} {ca : Nat → ClassId} (hE : hg_E E ou) (hX : hx_E E) (hNo : hn_E E) (hl : ∀ e : Env, l.admits e → e.platform.stackTraces = false) : hg_MetW l E D ou ca hyL_item method_5_code 4 hhL_item 7 prL_item_11 fmL_item_11 := by
  refine am_metW (nt := 5) (by decide +kernel) rfl (hg_tys_ok ca) (fun t ht => List.mem_cons_of_mem _ (hg_arr t ht)) (by decide) rlL_item_11 ?_
  rintro a w ⟨r, t, m, y, x, c, u, g, p0, rfl, rfl, hp⟩ ad p e R s mm args below meth cd hadm hR X hEs hnm hret hlk hhd
  rw [feL_item_11] at hR ⊢
  have hR1 : 7 ≤ R.frames ∧ 280 ≤ R.locals := by rw [hR]; exact ⟨Nat.le_refl _, Nat.le_refl _⟩
  have hpl : e.platform.magicAccessors = ({} : Platform).magicAccessors := by rw [hadm.platform]
  have Y : am_TK p l e R s mm args below meth cd method_5_code hyL_item.cls (Cond.codeWith hyL_item method_5_code 4 (some .int) hhL_item :: gw_all) D hn_cl (va_A (am_w ad ou ca (kw_HO r t m y x c u g)) s.heap.size) ou ca 4 5 (am_mk kbL_item 1 6 28) := by
    refine ⟨kdL_item_ok, fun index ci fi mode hq => (am_no hq).elim, fun index ci fs hq => (am_no hq).elim, fun x v hq => (am_no hq).elim, ?_, fun o t n f hq => (am_no hq).elim, rfl, rfl, by rw [hR]; exact Nat.le_refl _, by rw [hR]; exact Nat.le_refl _⟩
    intro pc sel n0 pre0 f0 hq
    have hz : ∀ q ∈ kiL_item, am_CK p l e R s mm args below meth cd D hn_cl (va_A (am_w ad ou ca (kw_HO r t m y x c u g)) s.heap.size) ou ca 4 q.1 q.2.2.1 q.2.2.2.1 q.2.2.2.2 := am_allc (am_ck_V (n := 1) X hEs hE.1 (km9_item hE) (hg_good (gw_mem 696 (by decide +kernel))) rfl (List.mem_cons_of_mem _ (gw_mem 68 (by decide +kernel))) (List.mem_cons_of_mem _ (gw_mem 693 (by decide +kernel))) (List.mem_cons_of_mem _ (gw_mem 694 (by decide +kernel))) (List.mem_cons_of_mem _ (gw_mem 695 (by decide +kernel))) pa9_item (by decide +kernel) ⟨Nat.le_trans (by decide) hR1.1, Nat.le_trans (by decide) hR1.2⟩ (kdL_item_ok (4, .invokevirtual 20, 3) (List.mem_of_getElem? (i := 4) rfl))) am_all0
    exact hz _ (am_as_mem hq)
  refine am_sg_ok (ad0 := ad) X Y rfl (sgL_item_11 r t m y x c u g p0) (fun ad1 had1 => ?_) ad (fun _ _ => rfl)
  refine am_o_cat (n0 := 28) (sel := [0, 1, 2, 3, 4, 5, 6, 7, 8, 9, 10, 11, 12, 13, 14, 15, 16, 17, 18, 19, 20, 21, 22, 23, 24, 25, 26]) (pre := pt9_item_11) (f := ft9_item_11) (w1 := kw_H r t m y x c u) (x := 3) X (am_ct_V (n := 1) (hpc := 12) X hEs hE.1 (kt9_item_11 hE hX hl) (hg_good (gw_mem 696 (by decide +kernel))) rfl (List.mem_cons_of_mem _ (gw_mem 68 (by decide +kernel))) (List.mem_cons_of_mem _ (gw_mem 693 (by decide +kernel))) (List.mem_cons_of_mem _ (gw_mem 694 (by decide +kernel))) (List.mem_cons_of_mem _ (gw_mem 695 (by decide +kernel))) pb9_item_11 (by decide +kernel) ⟨Nat.le_trans (by decide) hR1.1, Nat.le_trans (by decide) hR1.2⟩ (kdL_item_ok (4, .invokevirtual 20, 3) (List.mem_of_getElem? (i := 4) rfl)) (fun S ls rest x9 ce hW hc hv hfc => hc_w1 (own := "HoleTemplatesLaw") (args := args) (C := "java/lang/IndexOutOfBoundsException") hpl hW X.2.2.2.1 hhd (Nat.zero_le _) (by show 4 < 9; decide) (by decide) (X.2.2.2.2.1 _ (List.mem_cons_of_mem _ (gw_mem 692 (by decide +kernel)))) hc hv hfc (hx_self hX hEs (q := (101, 97, "java/lang/IndexOutOfBoundsException")) (List.mem_of_getElem? (i := 2) rfl) hfc))) rfl (ko_o r t m y x c u g) rfl ⟨r, t, m, y, x, c, u, p0, rfl, rfl, hp⟩ (gt9_item_11 r t m y x c u p0) rfl (by decide) (by rw [hR]; exact Nat.le_refl _) (by rw [hR]; exact Nat.le_refl _) (kdL_item_ok (12, .astore_n 3, 1) (List.mem_of_getElem? (i := 8) rfl)) (by decide) (fun v9 h9 => by cases h9) (fun ad2 had2 => ?_)
  exact am_ev_ok X Y (fun i len pc L S w2 k j hd hr2 ad' had => am_ret_ok (T := (am_mk kbL_item 1 6 28)) (ad0 := ad) X hret hlk hd hr2 had) 1 _ (evL_item_11 _ _) ad2 (fun i hi => (had2 i hi).trans (had1 i hi))
abbrev prL_item_36 : List am_V → List am_C → Prop := fun a w => ∃ (r : qt6) (t : qt6) (m : qt2) (y : qt0) (x : qt5) (c : qt1) (u : qt6) (g : Nat → Int32) (p0 : Int32), a = [.inr (.inl 0), .inl p0, .inr (.inl 27)] ∧ w = kw_HO r t m y x c u g ∧ wt9_item_36 r t m y x c u p0
noncomputable def fmL_item_36 : am_M := fun a w => (fun (r : qt6) (t : qt6) (m : qt2) (y : qt0) (x : qt5) (c : qt1) (u : qt6) (g : Nat → Int32) (p0 : Int32) => (some (.inl 2), kw_HO r t ((fn2_keep m r p0).2) y x c u g, 1, 6)) (qs6 w 1) (qs6 w 3) (qs2 w 5) (qs0 w 10) (qs5 w 15) (qs1 w 23) (qs6 w 25) (am_ga w 27) (am_i (am_an a 1))
set_option maxRecDepth 100000 in
set_option maxHeartbeats 4000000 in
theorem feL_item_36 (r : qt6) (t : qt6) (m : qt2) (y : qt0) (x : qt5) (c : qt1) (u : qt6) (g : Nat → Int32) (p0 : Int32) : fmL_item_36 [.inr (.inl 0), .inl p0, .inr (.inl 27)] (kw_HO r t m y x c u g) = (some (.inl 2), kw_HO r t ((fn2_keep m r p0).2) y x c u g, 1, 6) := rfl
theorem rlL_item_36 : ∀ (a : List am_V) (w : List am_C), prL_item_36 a w → a.length ≤ 4 := by
  rintro a w ⟨r, t, m, y, x, c, u, g, p0, rfl, rfl, hp⟩
  exact Nat.le_of_ble_eq_true rfl
set_option maxRecDepth 100000 in
set_option maxHeartbeats 4000000 in
theorem sgL_item_36 (r : qt6) (t : qt6) (m : qt2) (y : qt0) (x : qt5) (c : qt1) (u : qt6) (g : Nat → Int32) (p0 : Int32) : am_sg (am_mk kbL_item 1 6 28) [4] (0, (am_L0 [.inr (.inl 0), .inl p0, .inr (.inl 27)] 4), [], kw_HO r t m y x c u g, 0, 0) (4, (am_L0 [.inr (.inl 0), .inl p0, .inr (.inl 27)] 4), [.inr (.inl 0), .inl p0].reverse ++ [.inl 0, .inr (.inl 27)], kw_HO r t m y x c u g, 0, 0) := by
  refine am_sg_of fun kt hk => ?_
  exact hk
set_option maxRecDepth 100000 in
set_option maxHeartbeats 4000000 in
theorem evL_item_36 (L : List (Option am_V)) (w : List am_C) : am_ev (am_mk kbL_item 1 6 28) [] 1 (16, L, [], w, 1, 6) = some (some (.inl 2), w) := rfl
set_option maxRecDepth 100000 in
set_option maxHeartbeats 4000000 in
theorem kmL_item_36 {l : Launch} {E : (Nat → Prop) → State → Prop} {D : va_G} {ou : Nat → Nat} {ca : Nat → ClassId} (hE : hg_E E ou) (hX : hx_E E) (hNo : hn_E E) (hl : ∀ e : Env, l.admits e → e.platform.stackTraces = false) : hg_MetW l E D ou ca hyL_item method_5_code 4 hhL_item 7 prL_item_36 fmL_item_36 := by
  refine am_metW (nt := 5) (by decide +kernel) rfl (hg_tys_ok ca) (fun t ht => List.mem_cons_of_mem _ (hg_arr t ht)) (by decide) rlL_item_36 ?_
  rintro a w ⟨r, t, m, y, x, c, u, g, p0, rfl, rfl, hp⟩ ad p e R s mm args below meth cd hadm hR X hEs hnm hret hlk hhd
  rw [feL_item_36] at hR ⊢
  have hR1 : 7 ≤ R.frames ∧ 280 ≤ R.locals := by rw [hR]; exact ⟨Nat.le_refl _, Nat.le_refl _⟩
  have hpl : e.platform.magicAccessors = ({} : Platform).magicAccessors := by rw [hadm.platform]
  have Y : am_TK p l e R s mm args below meth cd method_5_code hyL_item.cls (Cond.codeWith hyL_item method_5_code 4 (some .int) hhL_item :: gw_all) D hn_cl (va_A (am_w ad ou ca (kw_HO r t m y x c u g)) s.heap.size) ou ca 4 5 (am_mk kbL_item 1 6 28) := by
    refine ⟨kdL_item_ok, fun index ci fi mode hq => (am_no hq).elim, fun index ci fs hq => (am_no hq).elim, fun x v hq => (am_no hq).elim, ?_, fun o t n f hq => (am_no hq).elim, rfl, rfl, by rw [hR]; exact Nat.le_refl _, by rw [hR]; exact Nat.le_refl _⟩
    intro pc sel n0 pre0 f0 hq
    have hz : ∀ q ∈ kiL_item, am_CK p l e R s mm args below meth cd D hn_cl (va_A (am_w ad ou ca (kw_HO r t m y x c u g)) s.heap.size) ou ca 4 q.1 q.2.2.1 q.2.2.2.1 q.2.2.2.2 := am_allc (am_ck_V (n := 1) X hEs hE.1 (km9_item hE) (hg_good (gw_mem 696 (by decide +kernel))) rfl (List.mem_cons_of_mem _ (gw_mem 68 (by decide +kernel))) (List.mem_cons_of_mem _ (gw_mem 693 (by decide +kernel))) (List.mem_cons_of_mem _ (gw_mem 694 (by decide +kernel))) (List.mem_cons_of_mem _ (gw_mem 695 (by decide +kernel))) pa9_item (by decide +kernel) ⟨Nat.le_trans (by decide) hR1.1, Nat.le_trans (by decide) hR1.2⟩ (kdL_item_ok (4, .invokevirtual 20, 3) (List.mem_of_getElem? (i := 4) rfl))) am_all0
    exact hz _ (am_as_mem hq)
  refine am_sg_ok (ad0 := ad) X Y rfl (sgL_item_36 r t m y x c u g p0) (fun ad1 had1 => ?_) ad (fun _ _ => rfl)
  refine am_o_cat (n0 := 28) (sel := [0, 1, 2, 3, 4, 5, 6, 7, 8, 9, 10, 11, 12, 13, 14, 15, 16, 17, 18, 19, 20, 21, 22, 23, 24, 25, 26]) (pre := pt9_item_36) (f := ft9_item_36) (w1 := kw_H r t ((fn2_keep m r p0).2) y x c u) (x := 3) X (am_ct_V (n := 1) (hpc := 15) X hEs hE.1 (kt9_item_36 hE hX hl) (hg_good (gw_mem 696 (by decide +kernel))) rfl (List.mem_cons_of_mem _ (gw_mem 68 (by decide +kernel))) (List.mem_cons_of_mem _ (gw_mem 693 (by decide +kernel))) (List.mem_cons_of_mem _ (gw_mem 694 (by decide +kernel))) (List.mem_cons_of_mem _ (gw_mem 695 (by decide +kernel))) pb9_item_36 (by decide +kernel) ⟨Nat.le_trans (by decide) hR1.1, Nat.le_trans (by decide) hR1.2⟩ (kdL_item_ok (4, .invokevirtual 20, 3) (List.mem_of_getElem? (i := 4) rfl)) (fun S ls rest x9 ce hW hc hv hfc => hc_w2 (own := "HoleTemplatesLaw") (args := args) (C := "java/lang/IllegalStateException") (C1 := "java/lang/IndexOutOfBoundsException") hpl hW X.2.2.2.1 hhd (Nat.zero_le _) (by show 4 < 9; decide) (by decide) (X.2.2.2.2.1 _ (List.mem_cons_of_mem _ (gw_mem 692 (by decide +kernel)))) (fun c9 h9 => hNo _ _ hEs _ _ hfc (Or.inl h9)) (Nat.zero_le _) (by show 4 < 9; decide) (by decide) (X.2.2.2.2.1 _ (List.mem_cons_of_mem _ (gw_mem 592 (by decide +kernel)))) hc hv hfc (hx_self hX hEs (q := (63, 59, "java/lang/IllegalStateException")) (List.mem_of_getElem? (i := 0) rfl) hfc))) rfl (ko_o r t m y x c u g) rfl ⟨r, t, m, y, x, c, u, p0, rfl, rfl, hp⟩ (gt9_item_36 r t m y x c u p0) rfl (by decide) (by rw [hR]; exact Nat.le_refl _) (by rw [hR]; exact Nat.le_refl _) (kdL_item_ok (15, .astore_n 3, 1) (List.mem_of_getElem? (i := 11) rfl)) (by decide) (fun v9 h9 => by cases h9) (fun ad2 had2 => ?_)
  exact am_ev_ok X Y (fun i len pc L S w2 k j hd hr2 ad' had => am_ret_ok (T := (am_mk kbL_item 1 6 28)) (ad0 := ad) X hret hlk hd hr2 had) 1 _ (evL_item_36 _ _) ad2 (fun i hi => (had2 i hi).trans (had1 i hi))
def kdL_forget : List (Nat × Instr × Nat) := [(0, .aload_n 2, 1), (1, .iconst 0, 1), (2, .aload_n 0, 1), (3, .iload_n 1, 1), (4, .invokevirtual 26, 3), (7, .i2l, 1), (8, .lastore, 1), (9, .goto 6, 3), (12, .astore_n 3, 1), (13, .iconst 1, 1), (14, .ireturn, 1), (15, .iconst 0, 1), (16, .ireturn, 1)]
theorem kdL_forget_ok : ∀ q ∈ kdL_forget, decode method_6_code q.1 = .ok q.2 := by decide +kernel
def hyL_forget : MethodName := ⟨"HoleTemplatesLaw", "forget", "(LHoleTemplates;I[J)I"⟩
abbrev hhL_forget : List (Nat × Nat × Nat × Nat) := [(0, 9, 12, 24)]
noncomputable def kiL_forget : List (Nat × Option (List Nat) × Nat × (List am_V → List am_C → Prop) × am_M) := [(4, some [0, 1, 2, 3, 4, 5, 6, 7, 8, 9, 10, 11, 12, 13, 14, 15, 16, 17, 18, 19, 20, 21, 22, 23, 24, 25, 26], 2, pr9_forget, fm9_forget)]
noncomputable def kbL_forget : am_B := (kdL_forget, fun _ => none, hn_ty, fun _ => none, fun _ => none, am_as kiL_forget, fun _ => none, 5, 4, (some .int))
abbrev prL_forget : List am_V → List am_C → Prop := fun a w => ∃ (r : qt6) (t : qt6) (m : qt2) (y : qt0) (x : qt5) (c : qt1) (u : qt6) (g : Nat → Int32) (p0 : Int32), a = [.inr (.inl 0), .inl p0, .inr (.inl 27)] ∧ w = kw_HO r t m y x c u g ∧ wp9_forget r t m y x c u p0
noncomputable def fmL_forget : am_M := fun a w => (fun (r : qt6) (t : qt6) (m : qt2) (y : qt0) (x : qt5) (c : qt1) (u : qt6) (g : Nat → Int32) (p0 : Int32) => (some (.inl 0), kw_HO r t ((fn9_forget r t m y x c u p0).2) y x c u (upd g 0 ((fn9_forget r t m y x c u p0).1)), 0, 0)) (qs6 w 1) (qs6 w 3) (qs2 w 5) (qs0 w 10) (qs5 w 15) (qs1 w 23) (qs6 w 25) (am_ga w 27) (am_i (am_an a 1))
set_option maxRecDepth 100000 in
set_option maxHeartbeats 4000000 in
theorem feL_forget (r : qt6) (t : qt6) (m : qt2) (y : qt0) (x : qt5) (c : qt1) (u : qt6) (g : Nat → Int32) (p0 : Int32) : fmL_forget [.inr (.inl 0), .inl p0, .inr (.inl 27)] (kw_HO r t m y x c u g) = (some (.inl 0), kw_HO r t ((fn9_forget r t m y x c u p0).2) y x c u (upd g 0 ((fn9_forget r t m y x c u p0).1)), 0, 0) := rfl
theorem rlL_forget : ∀ (a : List am_V) (w : List am_C), prL_forget a w → a.length ≤ 4 := by
  rintro a w ⟨r, t, m, y, x, c, u, g, p0, rfl, rfl, hp⟩
  exact Nat.le_of_ble_eq_true rfl
set_option maxRecDepth 100000 in
set_option maxHeartbeats 4000000 in
theorem sgL_forget (r : qt6) (t : qt6) (m : qt2) (y : qt0) (x : qt5) (c : qt1) (u : qt6) (g : Nat → Int32) (p0 : Int32) (hp : wp9_forget r t m y x c u p0) : am_sg (am_mk kbL_forget 0 0 28) [7] (0, (am_L0 [.inr (.inl 0), .inl p0, .inr (.inl 27)] 4), [], kw_HO r t m y x c u g, 0, 0) (7, (am_L0 [.inr (.inl 0), .inl p0, .inr (.inl 27)] 4), [.inl ((fn9_forget r t m y x c u p0).1), .inl 0, .inr (.inl 27)], kw_HO r t ((fn9_forget r t m y x c u p0).2) y x c u g, 0, 0) := by
  refine am_sg_of fun kt hk => ?_
  refine am_cy (pre := pr9_forget) (f := fm9_forget) (a' := [.inr (.inl 0), .inl p0]) (wc := kw_H r t m y x c u) (w' := kw_HO r t ((fn9_forget r t m y x c u p0).2) y x c u g) (r := (some (.inl ((fn9_forget r t m y x c u p0).1)), kw_H r t ((fn9_forget r t m y x c u p0).2) y x c u, 0, 0)) ?_ ?_ ?_ ?_ ?_ ?_ ?_ ?_ ?_ ?_
  · exact ko_o r t m y x c u g
  · rfl
  · rfl
  · exact ko_s r t m y x c u g
  · exact ⟨r, t, m, y, x, c, u, p0, rfl, rfl, hp⟩
  · exact fe9_forget r t m y x c u p0
  · rfl
  · rfl
  · exact ko_m r t m y x c u g r t ((fn9_forget r t m y x c u p0).2) y x c u
  exact hk
set_option maxRecDepth 100000 in
set_option maxHeartbeats 4000000 in
theorem evL_forget (L : List (Option am_V)) (w : List am_C) : am_ev (am_mk kbL_forget 0 0 28) [] 1 (9, L, [], w, 0, 0) = some (some (.inl 0), w) := rfl
set_option maxRecDepth 100000 in
set_option maxHeartbeats 4000000 in
theorem kmL_forget {l : Launch} {E : (Nat → Prop) → State → Prop} {D : va_G} {ou : Nat → Nat} {ca : Nat → ClassId} (hE : hg_E E ou) : hg_MetW l E D ou ca hyL_forget method_6_code 4 hhL_forget 7 prL_forget fmL_forget := by
  refine am_metW (nt := 5) (by decide +kernel) rfl (hg_tys_ok ca) (fun t ht => List.mem_cons_of_mem _ (hg_arr t ht)) (by decide) rlL_forget ?_
  rintro a w ⟨r, t, m, y, x, c, u, g, p0, rfl, rfl, hp⟩ ad p e R s mm args below meth cd hadm hR X hEs hnm hret hlk hhd
  rw [feL_forget] at hR ⊢
  have hR1 : 7 ≤ R.frames ∧ 280 ≤ R.locals := by rw [hR]; exact ⟨Nat.le_refl _, Nat.le_refl _⟩
  have Y : am_TK p l e R s mm args below meth cd method_6_code hyL_forget.cls (Cond.codeWith hyL_forget method_6_code 4 (some .int) hhL_forget :: gw_all) D hn_cl (va_A (am_w ad ou ca (kw_HO r t m y x c u g)) s.heap.size) ou ca 4 5 (am_mk kbL_forget 0 0 28) := by
    refine ⟨kdL_forget_ok, fun index ci fi mode hq => (am_no hq).elim, fun index ci fs hq => (am_no hq).elim, fun x v hq => (am_no hq).elim, ?_, fun o t n f hq => (am_no hq).elim, rfl, rfl, by rw [hR]; exact Nat.le_refl _, by rw [hR]; exact Nat.le_refl _⟩
    intro pc sel n0 pre0 f0 hq
    have hz : ∀ q ∈ kiL_forget, am_CK p l e R s mm args below meth cd D hn_cl (va_A (am_w ad ou ca (kw_HO r t m y x c u g)) s.heap.size) ou ca 4 q.1 q.2.2.1 q.2.2.2.1 q.2.2.2.2 := am_allc (am_ck_V (n := 1) X hEs hE.1 (km9_forget hE) (hg_good (gw_mem 734 (by decide +kernel))) rfl (List.mem_cons_of_mem _ (gw_mem 68 (by decide +kernel))) (List.mem_cons_of_mem _ (gw_mem 731 (by decide +kernel))) (List.mem_cons_of_mem _ (gw_mem 732 (by decide +kernel))) (List.mem_cons_of_mem _ (gw_mem 733 (by decide +kernel))) pa9_forget (by decide +kernel) ⟨Nat.le_trans (by decide) hR1.1, Nat.le_trans (by decide) hR1.2⟩ (kdL_forget_ok (4, .invokevirtual 26, 3) (List.mem_of_getElem? (i := 4) rfl))) am_all0
    exact hz _ (am_as_mem hq)
  refine am_sg_ok (ad0 := ad) X Y rfl (sgL_forget r t m y x c u g p0 hp) (fun ad1 had1 => ?_) ad (fun _ _ => rfl)
  refine am_o_last X (by decide) (kdL_forget_ok (7, .i2l, 1) (List.mem_of_getElem? (i := 5) rfl)) (kdL_forget_ok (8, .lastore, 1) (List.mem_of_getElem? (i := 6) rfl)) rfl rfl ?_
  exact am_ev_ok X Y (fun i len pc L S w2 k j hd hr2 ad' had => am_ret_ok (T := (am_mk kbL_forget 0 0 28)) (ad0 := ad) X hret hlk hd hr2 had) 1 _ (evL_forget _ _) ad1 had1
abbrev prL_forget_11 : List am_V → List am_C → Prop := fun a w => ∃ (r : qt6) (t : qt6) (m : qt2) (y : qt0) (x : qt5) (c : qt1) (u : qt6) (g : Nat → Int32) (p0 : Int32), a = [.inr (.inl 0), .inl p0, .inr (.inl 27)] ∧ w = kw_HO r t m y x c u g ∧ wt9_forget_11 r t m y x c u p0
noncomputable def fmL_forget_11 : am_M := fun a w => (fun (r : qt6) (t : qt6) (m : qt2) (y : qt0) (x : qt5) (c : qt1) (u : qt6) (g : Nat → Int32) (p0 : Int32) => (some (.inl 1), kw_HO r t m y x c u g, 1, 6)) (qs6 w 1) (qs6 w 3) (qs2 w 5) (qs0 w 10) (qs5 w 15) (qs1 w 23) (qs6 w 25) (am_ga w 27) (am_i (am_an a 1))
set_option maxRecDepth 100000 in
set_option maxHeartbeats 4000000 in
theorem feL_forget_11 (r : qt6) (t : qt6) (m : qt2) (y : qt0) (x : qt5) (c : qt1) (u : qt6) (g : Nat → Int32) (p0 : Int32) : fmL_forget_11 [.inr (.inl 0), .inl p0, .inr (.inl 27)] (kw_HO r t m y x c u g) = (some (.inl 1), kw_HO r t m y x c u g, 1, 6) := rfl
theorem rlL_forget_11 : ∀ (a : List am_V) (w : List am_C), prL_forget_11 a w → a.length ≤ 4 := by
  rintro a w ⟨r, t, m, y, x, c, u, g, p0, rfl, rfl, hp⟩
  exact Nat.le_of_ble_eq_true rfl
set_option maxRecDepth 100000 in
set_option maxHeartbeats 4000000 in
theorem sgL_forget_11 (r : qt6) (t : qt6) (m : qt2) (y : qt0) (x : qt5) (c : qt1) (u : qt6) (g : Nat → Int32) (p0 : Int32) : am_sg (am_mk kbL_forget 1 6 28) [4] (0, (am_L0 [.inr (.inl 0), .inl p0, .inr (.inl 27)] 4), [], kw_HO r t m y x c u g, 0, 0) (4, (am_L0 [.inr (.inl 0), .inl p0, .inr (.inl 27)] 4), [.inr (.inl 0), .inl p0].reverse ++ [.inl 0, .inr (.inl 27)], kw_HO r t m y x c u g, 0, 0) := by
  refine am_sg_of fun kt hk => ?_
  exact hk
set_option maxRecDepth 100000 in
set_option maxHeartbeats 4000000 in
theorem evL_forget_11 (L : List (Option am_V)) (w : List am_C) : am_ev (am_mk kbL_forget 1 6 28) [] 1 (13, L, [], w, 1, 6) = some (some (.inl 1), w) := rfl
set_option maxRecDepth 100000 in
set_option maxHeartbeats 4000000 in
theorem kmL_forget_11 {l : Launch} {E : (Nat → Prop) → State → Prop} {D : va_G} {ou : Nat → Nat} {ca : Nat → ClassId} (hE : hg_E E ou) (hX : hx_E E) (hNo : hn_E E) (hl : ∀ e : Env, l.admits e → e.platform.stackTraces = false) : hg_MetW l E D ou ca hyL_forget method_6_code 4 hhL_forget 7 prL_forget_11 fmL_forget_11 := by
  refine am_metW (nt := 5) (by decide +kernel) rfl (hg_tys_ok ca) (fun t ht => List.mem_cons_of_mem _ (hg_arr t ht)) (by decide) rlL_forget_11 ?_
  rintro a w ⟨r, t, m, y, x, c, u, g, p0, rfl, rfl, hp⟩ ad p e R s mm args below meth cd hadm hR X hEs hnm hret hlk hhd
  rw [feL_forget_11] at hR ⊢
  have hR1 : 7 ≤ R.frames ∧ 280 ≤ R.locals := by rw [hR]; exact ⟨Nat.le_refl _, Nat.le_refl _⟩
  have hpl : e.platform.magicAccessors = ({} : Platform).magicAccessors := by rw [hadm.platform]
  have Y : am_TK p l e R s mm args below meth cd method_6_code hyL_forget.cls (Cond.codeWith hyL_forget method_6_code 4 (some .int) hhL_forget :: gw_all) D hn_cl (va_A (am_w ad ou ca (kw_HO r t m y x c u g)) s.heap.size) ou ca 4 5 (am_mk kbL_forget 1 6 28) := by
    refine ⟨kdL_forget_ok, fun index ci fi mode hq => (am_no hq).elim, fun index ci fs hq => (am_no hq).elim, fun x v hq => (am_no hq).elim, ?_, fun o t n f hq => (am_no hq).elim, rfl, rfl, by rw [hR]; exact Nat.le_refl _, by rw [hR]; exact Nat.le_refl _⟩
    intro pc sel n0 pre0 f0 hq
    have hz : ∀ q ∈ kiL_forget, am_CK p l e R s mm args below meth cd D hn_cl (va_A (am_w ad ou ca (kw_HO r t m y x c u g)) s.heap.size) ou ca 4 q.1 q.2.2.1 q.2.2.2.1 q.2.2.2.2 := am_allc (am_ck_V (n := 1) X hEs hE.1 (km9_forget hE) (hg_good (gw_mem 734 (by decide +kernel))) rfl (List.mem_cons_of_mem _ (gw_mem 68 (by decide +kernel))) (List.mem_cons_of_mem _ (gw_mem 731 (by decide +kernel))) (List.mem_cons_of_mem _ (gw_mem 732 (by decide +kernel))) (List.mem_cons_of_mem _ (gw_mem 733 (by decide +kernel))) pa9_forget (by decide +kernel) ⟨Nat.le_trans (by decide) hR1.1, Nat.le_trans (by decide) hR1.2⟩ (kdL_forget_ok (4, .invokevirtual 26, 3) (List.mem_of_getElem? (i := 4) rfl))) am_all0
    exact hz _ (am_as_mem hq)
  refine am_sg_ok (ad0 := ad) X Y rfl (sgL_forget_11 r t m y x c u g p0) (fun ad1 had1 => ?_) ad (fun _ _ => rfl)
  refine am_o_cat (n0 := 28) (sel := [0, 1, 2, 3, 4, 5, 6, 7, 8, 9, 10, 11, 12, 13, 14, 15, 16, 17, 18, 19, 20, 21, 22, 23, 24, 25, 26]) (pre := pt9_forget_11) (f := ft9_forget_11) (w1 := kw_H r t m y x c u) (x := 3) X (am_ct_V (n := 1) (hpc := 12) X hEs hE.1 (kt9_forget_11 hE hX hl) (hg_good (gw_mem 734 (by decide +kernel))) rfl (List.mem_cons_of_mem _ (gw_mem 68 (by decide +kernel))) (List.mem_cons_of_mem _ (gw_mem 731 (by decide +kernel))) (List.mem_cons_of_mem _ (gw_mem 732 (by decide +kernel))) (List.mem_cons_of_mem _ (gw_mem 733 (by decide +kernel))) pb9_forget_11 (by decide +kernel) ⟨Nat.le_trans (by decide) hR1.1, Nat.le_trans (by decide) hR1.2⟩ (kdL_forget_ok (4, .invokevirtual 26, 3) (List.mem_of_getElem? (i := 4) rfl)) (fun S ls rest x9 ce hW hc hv hfc => hc_w1 (own := "HoleTemplatesLaw") (args := args) (C := "java/lang/IndexOutOfBoundsException") hpl hW X.2.2.2.1 hhd (Nat.zero_le _) (by show 4 < 9; decide) (by decide) (X.2.2.2.2.1 _ (List.mem_cons_of_mem _ (gw_mem 692 (by decide +kernel)))) hc hv hfc (hx_self hX hEs (q := (101, 97, "java/lang/IndexOutOfBoundsException")) (List.mem_of_getElem? (i := 2) rfl) hfc))) rfl (ko_o r t m y x c u g) rfl ⟨r, t, m, y, x, c, u, p0, rfl, rfl, hp⟩ (gt9_forget_11 r t m y x c u p0) rfl (by decide) (by rw [hR]; exact Nat.le_refl _) (by rw [hR]; exact Nat.le_refl _) (kdL_forget_ok (12, .astore_n 3, 1) (List.mem_of_getElem? (i := 8) rfl)) (by decide) (fun v9 h9 => by cases h9) (fun ad2 had2 => ?_)
  exact am_ev_ok X Y (fun i len pc L S w2 k j hd hr2 ad' had => am_ret_ok (T := (am_mk kbL_forget 1 6 28)) (ad0 := ad) X hret hlk hd hr2 had) 1 _ (evL_forget_11 _ _) ad2 (fun i hi => (had2 i hi).trans (had1 i hi))
def kdL_write : List (Nat × Instr × Nat) := [(0, .aload_n 1, 1), (1, .iconst 0, 1), (2, .aload_n 0, 1), (3, .invokevirtual 29, 3), (6, .i2l, 1), (7, .lastore, 1), (8, .goto 9, 3), (11, .astore_n 2, 1), (12, .iconst 1, 1), (13, .ireturn, 1), (14, .astore_n 2, 1), (15, .iconst 2, 1), (16, .ireturn, 1), (17, .iconst 0, 1), (18, .ireturn, 1)]
theorem kdL_write_ok : ∀ q ∈ kdL_write, decode method_7_code q.1 = .ok q.2 := by decide +kernel
def hyL_write : MethodName := ⟨"HoleTemplatesLaw", "write", "(LHoleTemplates;[J)I"⟩
abbrev hhL_write : List (Nat × Nat × Nat × Nat) := [(0, 8, 11, 32), (0, 8, 14, 13)]
noncomputable def kiL_write : List (Nat × Option (List Nat) × Nat × (List am_V → List am_C → Prop) × am_M) := [(3, some [0, 1, 2, 3, 4, 5, 6, 7, 8, 9, 10, 11, 12, 13, 14, 15, 16, 17, 18, 19, 20, 21, 22, 23, 24, 25, 26], 1, pr9_write, fm9_write)]
noncomputable def kbL_write : am_B := (kdL_write, fun _ => none, hn_ty, fun _ => none, fun _ => none, am_as kiL_write, fun _ => none, 5, 3, (some .int))
abbrev prL_write : List am_V → List am_C → Prop := fun a w => ∃ (r : qt6) (t : qt6) (m : qt2) (y : qt0) (x : qt5) (c : qt1) (u : qt6) (g : Nat → Int32), a = [.inr (.inl 0), .inr (.inl 27)] ∧ w = kw_HO r t m y x c u g ∧ wp9_write r t m y x c u
noncomputable def fmL_write : am_M := fun a w => (fun (r : qt6) (t : qt6) (m : qt2) (y : qt0) (x : qt5) (c : qt1) (u : qt6) (g : Nat → Int32) => (some (.inl 0), kw_HO r t ((fn9_write r t m y x c u).2.1) y x c ((fn9_write r t m y x c u).2.2) (upd g 0 ((fn9_write r t m y x c u).1)), 0, 0)) (qs6 w 1) (qs6 w 3) (qs2 w 5) (qs0 w 10) (qs5 w 15) (qs1 w 23) (qs6 w 25) (am_ga w 27)
set_option maxRecDepth 100000 in
set_option maxHeartbeats 4000000 in
theorem feL_write (r : qt6) (t : qt6) (m : qt2) (y : qt0) (x : qt5) (c : qt1) (u : qt6) (g : Nat → Int32) : fmL_write [.inr (.inl 0), .inr (.inl 27)] (kw_HO r t m y x c u g) = (some (.inl 0), kw_HO r t ((fn9_write r t m y x c u).2.1) y x c ((fn9_write r t m y x c u).2.2) (upd g 0 ((fn9_write r t m y x c u).1)), 0, 0) := rfl
theorem rlL_write : ∀ (a : List am_V) (w : List am_C), prL_write a w → a.length ≤ 3 := by
  rintro a w ⟨r, t, m, y, x, c, u, g, rfl, rfl, hp⟩
  exact Nat.le_of_ble_eq_true rfl
set_option maxRecDepth 100000 in
set_option maxHeartbeats 4000000 in
theorem sgL_write (r : qt6) (t : qt6) (m : qt2) (y : qt0) (x : qt5) (c : qt1) (u : qt6) (g : Nat → Int32) (hp : wp9_write r t m y x c u) : am_sg (am_mk kbL_write 0 0 28) [6] (0, (am_L0 [.inr (.inl 0), .inr (.inl 27)] 3), [], kw_HO r t m y x c u g, 0, 0) (6, (am_L0 [.inr (.inl 0), .inr (.inl 27)] 3), [.inl ((fn9_write r t m y x c u).1), .inl 0, .inr (.inl 27)], kw_HO r t ((fn9_write r t m y x c u).2.1) y x c ((fn9_write r t m y x c u).2.2) g, 0, 0) := by
  refine am_sg_of fun kt hk => ?_
  refine am_cy (pre := pr9_write) (f := fm9_write) (a' := [.inr (.inl 0)]) (wc := kw_H r t m y x c u) (w' := kw_HO r t ((fn9_write r t m y x c u).2.1) y x c ((fn9_write r t m y x c u).2.2) g) (r := (some (.inl ((fn9_write r t m y x c u).1)), kw_H r t ((fn9_write r t m y x c u).2.1) y x c ((fn9_write r t m y x c u).2.2), 0, 0)) ?_ ?_ ?_ ?_ ?_ ?_ ?_ ?_ ?_ ?_
  · exact ko_o r t m y x c u g
  · rfl
  · rfl
  · exact ko_s r t m y x c u g
  · exact ⟨r, t, m, y, x, c, u, rfl, rfl, hp⟩
  · exact fe9_write r t m y x c u
  · rfl
  · rfl
  · exact ko_m r t m y x c u g r t ((fn9_write r t m y x c u).2.1) y x c ((fn9_write r t m y x c u).2.2)
  exact hk
set_option maxRecDepth 100000 in
set_option maxHeartbeats 4000000 in
theorem evL_write (L : List (Option am_V)) (w : List am_C) : am_ev (am_mk kbL_write 0 0 28) [] 1 (8, L, [], w, 0, 0) = some (some (.inl 0), w) := rfl
set_option maxRecDepth 100000 in
set_option maxHeartbeats 4000000 in
theorem kmL_write {l : Launch} {E : (Nat → Prop) → State → Prop} {D : va_G} {ou : Nat → Nat} {ca : Nat → ClassId} (hE : hg_E E ou) : hg_MetW l E D ou ca hyL_write method_7_code 3 hhL_write 41 prL_write fmL_write := by
  refine am_metW (nt := 5) (by decide +kernel) rfl (hg_tys_ok ca) (fun t ht => List.mem_cons_of_mem _ (hg_arr t ht)) (by decide) rlL_write ?_
  rintro a w ⟨r, t, m, y, x, c, u, g, rfl, rfl, hp⟩ ad p e R s mm args below meth cd hadm hR X hEs hnm hret hlk hhd
  rw [feL_write] at hR ⊢
  have hR1 : 41 ≤ R.frames ∧ 1640 ≤ R.locals := by rw [hR]; exact ⟨Nat.le_refl _, Nat.le_refl _⟩
  have Y : am_TK p l e R s mm args below meth cd method_7_code hyL_write.cls (Cond.codeWith hyL_write method_7_code 3 (some .int) hhL_write :: gw_all) D hn_cl (va_A (am_w ad ou ca (kw_HO r t m y x c u g)) s.heap.size) ou ca 3 5 (am_mk kbL_write 0 0 28) := by
    refine ⟨kdL_write_ok, fun index ci fi mode hq => (am_no hq).elim, fun index ci fs hq => (am_no hq).elim, fun x v hq => (am_no hq).elim, ?_, fun o t n f hq => (am_no hq).elim, rfl, rfl, by rw [hR]; exact Nat.le_refl _, by rw [hR]; exact Nat.le_refl _⟩
    intro pc sel n0 pre0 f0 hq
    have hz : ∀ q ∈ kiL_write, am_CK p l e R s mm args below meth cd D hn_cl (va_A (am_w ad ou ca (kw_HO r t m y x c u g)) s.heap.size) ou ca 3 q.1 q.2.2.1 q.2.2.2.1 q.2.2.2.2 := am_allc (am_ck_V (n := 0) X hEs hE.1 (km9_write hE) (hg_good (gw_mem 747 (by decide +kernel))) rfl (List.mem_cons_of_mem _ (gw_mem 68 (by decide +kernel))) (List.mem_cons_of_mem _ (gw_mem 744 (by decide +kernel))) (List.mem_cons_of_mem _ (gw_mem 745 (by decide +kernel))) (List.mem_cons_of_mem _ (gw_mem 746 (by decide +kernel))) pa9_write (by decide +kernel) ⟨Nat.le_trans (by decide) hR1.1, Nat.le_trans (by decide) hR1.2⟩ (kdL_write_ok (3, .invokevirtual 29, 3) (List.mem_of_getElem? (i := 3) rfl))) am_all0
    exact hz _ (am_as_mem hq)
  refine am_sg_ok (ad0 := ad) X Y rfl (sgL_write r t m y x c u g hp) (fun ad1 had1 => ?_) ad (fun _ _ => rfl)
  refine am_o_last X (by decide) (kdL_write_ok (6, .i2l, 1) (List.mem_of_getElem? (i := 4) rfl)) (kdL_write_ok (7, .lastore, 1) (List.mem_of_getElem? (i := 5) rfl)) rfl rfl ?_
  exact am_ev_ok X Y (fun i len pc L S w2 k j hd hr2 ad' had => am_ret_ok (T := (am_mk kbL_write 0 0 28)) (ad0 := ad) X hret hlk hd hr2 had) 1 _ (evL_write _ _) ad1 had1
abbrev prL_write_10 : List am_V → List am_C → Prop := fun a w => ∃ (r : qt6) (t : qt6) (m : qt2) (y : qt0) (x : qt5) (c : qt1) (u : qt6) (g : Nat → Int32), a = [.inr (.inl 0), .inr (.inl 27)] ∧ w = kw_HO r t m y x c u g ∧ wt9_write_10 r t m y x c u
noncomputable def fmL_write_10 : am_M := fun a w => (fun (r : qt6) (t : qt6) (m : qt2) (y : qt0) (x : qt5) (c : qt1) (u : qt6) (g : Nat → Int32) => (some (.inl 1), kw_HO r t m y x c u g, 1, 6)) (qs6 w 1) (qs6 w 3) (qs2 w 5) (qs0 w 10) (qs5 w 15) (qs1 w 23) (qs6 w 25) (am_ga w 27)
set_option maxRecDepth 100000 in
set_option maxHeartbeats 4000000 in
theorem feL_write_10 (r : qt6) (t : qt6) (m : qt2) (y : qt0) (x : qt5) (c : qt1) (u : qt6) (g : Nat → Int32) : fmL_write_10 [.inr (.inl 0), .inr (.inl 27)] (kw_HO r t m y x c u g) = (some (.inl 1), kw_HO r t m y x c u g, 1, 6) := rfl
theorem rlL_write_10 : ∀ (a : List am_V) (w : List am_C), prL_write_10 a w → a.length ≤ 3 := by
  rintro a w ⟨r, t, m, y, x, c, u, g, rfl, rfl, hp⟩
  exact Nat.le_of_ble_eq_true rfl
set_option maxRecDepth 100000 in
set_option maxHeartbeats 4000000 in
theorem sgL_write_10 (r : qt6) (t : qt6) (m : qt2) (y : qt0) (x : qt5) (c : qt1) (u : qt6) (g : Nat → Int32) : am_sg (am_mk kbL_write 1 6 28) [3] (0, (am_L0 [.inr (.inl 0), .inr (.inl 27)] 3), [], kw_HO r t m y x c u g, 0, 0) (3, (am_L0 [.inr (.inl 0), .inr (.inl 27)] 3), [.inr (.inl 0)].reverse ++ [.inl 0, .inr (.inl 27)], kw_HO r t m y x c u g, 0, 0) := by
  refine am_sg_of fun kt hk => ?_
  exact hk
set_option maxRecDepth 100000 in
set_option maxHeartbeats 4000000 in
theorem evL_write_10 (L : List (Option am_V)) (w : List am_C) : am_ev (am_mk kbL_write 1 6 28) [] 1 (12, L, [], w, 1, 6) = some (some (.inl 1), w) := rfl
set_option maxRecDepth 100000 in
set_option maxHeartbeats 4000000 in
theorem kmL_write_10 {l : Launch} {E : (Nat → Prop) → State → Prop} {D : va_G} {ou : Nat → Nat} {ca : Nat → ClassId} (hE : hg_E E ou) (hX : hx_E E) (hNo : hn_E E) (hl : ∀ e : Env, l.admits e → e.platform.stackTraces = false) : hg_MetW l E D ou ca hyL_write method_7_code 3 hhL_write 41 prL_write_10 fmL_write_10 := by
  refine am_metW (nt := 5) (by decide +kernel) rfl (hg_tys_ok ca) (fun t ht => List.mem_cons_of_mem _ (hg_arr t ht)) (by decide) rlL_write_10 ?_
  rintro a w ⟨r, t, m, y, x, c, u, g, rfl, rfl, hp⟩ ad p e R s mm args below meth cd hadm hR X hEs hnm hret hlk hhd
  rw [feL_write_10] at hR ⊢
  have hR1 : 41 ≤ R.frames ∧ 1640 ≤ R.locals := by rw [hR]; exact ⟨Nat.le_refl _, Nat.le_refl _⟩
  have hpl : e.platform.magicAccessors = ({} : Platform).magicAccessors := by rw [hadm.platform]
  have Y : am_TK p l e R s mm args below meth cd method_7_code hyL_write.cls (Cond.codeWith hyL_write method_7_code 3 (some .int) hhL_write :: gw_all) D hn_cl (va_A (am_w ad ou ca (kw_HO r t m y x c u g)) s.heap.size) ou ca 3 5 (am_mk kbL_write 1 6 28) := by
    refine ⟨kdL_write_ok, fun index ci fi mode hq => (am_no hq).elim, fun index ci fs hq => (am_no hq).elim, fun x v hq => (am_no hq).elim, ?_, fun o t n f hq => (am_no hq).elim, rfl, rfl, by rw [hR]; exact Nat.le_refl _, by rw [hR]; exact Nat.le_refl _⟩
    intro pc sel n0 pre0 f0 hq
    have hz : ∀ q ∈ kiL_write, am_CK p l e R s mm args below meth cd D hn_cl (va_A (am_w ad ou ca (kw_HO r t m y x c u g)) s.heap.size) ou ca 3 q.1 q.2.2.1 q.2.2.2.1 q.2.2.2.2 := am_allc (am_ck_V (n := 0) X hEs hE.1 (km9_write hE) (hg_good (gw_mem 747 (by decide +kernel))) rfl (List.mem_cons_of_mem _ (gw_mem 68 (by decide +kernel))) (List.mem_cons_of_mem _ (gw_mem 744 (by decide +kernel))) (List.mem_cons_of_mem _ (gw_mem 745 (by decide +kernel))) (List.mem_cons_of_mem _ (gw_mem 746 (by decide +kernel))) pa9_write (by decide +kernel) ⟨Nat.le_trans (by decide) hR1.1, Nat.le_trans (by decide) hR1.2⟩ (kdL_write_ok (3, .invokevirtual 29, 3) (List.mem_of_getElem? (i := 3) rfl))) am_all0
    exact hz _ (am_as_mem hq)
  refine am_sg_ok (ad0 := ad) X Y rfl (sgL_write_10 r t m y x c u g) (fun ad1 had1 => ?_) ad (fun _ _ => rfl)
  refine am_o_cat (n0 := 28) (sel := [0, 1, 2, 3, 4, 5, 6, 7, 8, 9, 10, 11, 12, 13, 14, 15, 16, 17, 18, 19, 20, 21, 22, 23, 24, 25, 26]) (pre := pt9_write_10) (f := ft9_write_10) (w1 := kw_H r t m y x c u) (x := 2) X (am_ct_V (n := 0) (hpc := 11) X hEs hE.1 (kt9_write_10 hE hX hl) (hg_good (gw_mem 747 (by decide +kernel))) rfl (List.mem_cons_of_mem _ (gw_mem 68 (by decide +kernel))) (List.mem_cons_of_mem _ (gw_mem 744 (by decide +kernel))) (List.mem_cons_of_mem _ (gw_mem 745 (by decide +kernel))) (List.mem_cons_of_mem _ (gw_mem 746 (by decide +kernel))) pb9_write_10 (by decide +kernel) ⟨Nat.le_trans (by decide) hR1.1, Nat.le_trans (by decide) hR1.2⟩ (kdL_write_ok (3, .invokevirtual 29, 3) (List.mem_of_getElem? (i := 3) rfl)) (fun S ls rest x9 ce hW hc hv hfc => hc_w1 (own := "HoleTemplatesLaw") (args := args) (C := "java/lang/UnsupportedOperationException") hpl hW X.2.2.2.1 hhd (Nat.zero_le _) (by show 3 < 8; decide) (by decide) (X.2.2.2.2.1 _ (List.mem_cons_of_mem _ (gw_mem 743 (by decide +kernel)))) hc hv hfc (hx_self hX hEs (q := (118, 114, "java/lang/UnsupportedOperationException")) (List.mem_of_getElem? (i := 3) rfl) hfc))) rfl (ko_o r t m y x c u g) rfl ⟨r, t, m, y, x, c, u, rfl, rfl, hp⟩ (gt9_write_10 r t m y x c u) rfl (by decide) (by rw [hR]; exact Nat.le_refl _) (by rw [hR]; exact Nat.le_refl _) (kdL_write_ok (11, .astore_n 2, 1) (List.mem_of_getElem? (i := 7) rfl)) (by decide) (fun v9 h9 => by cases h9) (fun ad2 had2 => ?_)
  exact am_ev_ok X Y (fun i len pc L S w2 k j hd hr2 ad' had => am_ret_ok (T := (am_mk kbL_write 1 6 28)) (ad0 := ad) X hret hlk hd hr2 had) 1 _ (evL_write_10 _ _) ad2 (fun i hi => (had2 i hi).trans (had1 i hi))
abbrev prL_write_41 : List am_V → List am_C → Prop := fun a w => ∃ (r : qt6) (t : qt6) (m : qt2) (y : qt0) (x : qt5) (c : qt1) (u : qt6) (g : Nat → Int32), a = [.inr (.inl 0), .inr (.inl 27)] ∧ w = kw_HO r t m y x c u g ∧ wt9_write_41 r t m y x c u
noncomputable def fmL_write_41 : am_M := fun a w => (fun (r : qt6) (t : qt6) (m : qt2) (y : qt0) (x : qt5) (c : qt1) (u : qt6) (g : Nat → Int32) => (some (.inl 2), kw_HO r t ((fn8_fill u x m).2.2) y x c ((fn8_fill u x m).2.1) g, 1, 6)) (qs6 w 1) (qs6 w 3) (qs2 w 5) (qs0 w 10) (qs5 w 15) (qs1 w 23) (qs6 w 25) (am_ga w 27)
set_option maxRecDepth 100000 in
set_option maxHeartbeats 4000000 in
theorem feL_write_41 (r : qt6) (t : qt6) (m : qt2) (y : qt0) (x : qt5) (c : qt1) (u : qt6) (g : Nat → Int32) : fmL_write_41 [.inr (.inl 0), .inr (.inl 27)] (kw_HO r t m y x c u g) = (some (.inl 2), kw_HO r t ((fn8_fill u x m).2.2) y x c ((fn8_fill u x m).2.1) g, 1, 6) := rfl
theorem rlL_write_41 : ∀ (a : List am_V) (w : List am_C), prL_write_41 a w → a.length ≤ 3 := by
  rintro a w ⟨r, t, m, y, x, c, u, g, rfl, rfl, hp⟩
  exact Nat.le_of_ble_eq_true rfl
set_option maxRecDepth 100000 in
set_option maxHeartbeats 4000000 in
theorem sgL_write_41 (r : qt6) (t : qt6) (m : qt2) (y : qt0) (x : qt5) (c : qt1) (u : qt6) (g : Nat → Int32) : am_sg (am_mk kbL_write 1 6 28) [3] (0, (am_L0 [.inr (.inl 0), .inr (.inl 27)] 3), [], kw_HO r t m y x c u g, 0, 0) (3, (am_L0 [.inr (.inl 0), .inr (.inl 27)] 3), [.inr (.inl 0)].reverse ++ [.inl 0, .inr (.inl 27)], kw_HO r t m y x c u g, 0, 0) := by
  refine am_sg_of fun kt hk => ?_
  exact hk
set_option maxRecDepth 100000 in
set_option maxHeartbeats 4000000 in
theorem evL_write_41 (L : List (Option am_V)) (w : List am_C) : am_ev (am_mk kbL_write 1 6 28) [] 1 (15, L, [], w, 1, 6) = some (some (.inl 2), w) := rfl
set_option maxRecDepth 100000 in
set_option maxHeartbeats 4000000 in
theorem kmL_write_41 {l : Launch} {E : (Nat → Prop) → State → Prop} {D : va_G} {ou : Nat → Nat} {ca : Nat → ClassId} (hE : hg_E E ou) (hX : hx_E E) (hNo : hn_E E) (hl : ∀ e : Env, l.admits e → e.platform.stackTraces = false) : hg_MetW l E D ou ca hyL_write method_7_code 3 hhL_write 41 prL_write_41 fmL_write_41 := by
  refine am_metW (nt := 5) (by decide +kernel) rfl (hg_tys_ok ca) (fun t ht => List.mem_cons_of_mem _ (hg_arr t ht)) (by decide) rlL_write_41 ?_
  rintro a w ⟨r, t, m, y, x, c, u, g, rfl, rfl, hp⟩ ad p e R s mm args below meth cd hadm hR X hEs hnm hret hlk hhd
  rw [feL_write_41] at hR ⊢
  have hR1 : 41 ≤ R.frames ∧ 1640 ≤ R.locals := by rw [hR]; exact ⟨Nat.le_refl _, Nat.le_refl _⟩
  have hpl : e.platform.magicAccessors = ({} : Platform).magicAccessors := by rw [hadm.platform]
  have Y : am_TK p l e R s mm args below meth cd method_7_code hyL_write.cls (Cond.codeWith hyL_write method_7_code 3 (some .int) hhL_write :: gw_all) D hn_cl (va_A (am_w ad ou ca (kw_HO r t m y x c u g)) s.heap.size) ou ca 3 5 (am_mk kbL_write 1 6 28) := by
    refine ⟨kdL_write_ok, fun index ci fi mode hq => (am_no hq).elim, fun index ci fs hq => (am_no hq).elim, fun x v hq => (am_no hq).elim, ?_, fun o t n f hq => (am_no hq).elim, rfl, rfl, by rw [hR]; exact Nat.le_refl _, by rw [hR]; exact Nat.le_refl _⟩
    intro pc sel n0 pre0 f0 hq
    have hz : ∀ q ∈ kiL_write, am_CK p l e R s mm args below meth cd D hn_cl (va_A (am_w ad ou ca (kw_HO r t m y x c u g)) s.heap.size) ou ca 3 q.1 q.2.2.1 q.2.2.2.1 q.2.2.2.2 := am_allc (am_ck_V (n := 0) X hEs hE.1 (km9_write hE) (hg_good (gw_mem 747 (by decide +kernel))) rfl (List.mem_cons_of_mem _ (gw_mem 68 (by decide +kernel))) (List.mem_cons_of_mem _ (gw_mem 744 (by decide +kernel))) (List.mem_cons_of_mem _ (gw_mem 745 (by decide +kernel))) (List.mem_cons_of_mem _ (gw_mem 746 (by decide +kernel))) pa9_write (by decide +kernel) ⟨Nat.le_trans (by decide) hR1.1, Nat.le_trans (by decide) hR1.2⟩ (kdL_write_ok (3, .invokevirtual 29, 3) (List.mem_of_getElem? (i := 3) rfl))) am_all0
    exact hz _ (am_as_mem hq)
  refine am_sg_ok (ad0 := ad) X Y rfl (sgL_write_41 r t m y x c u g) (fun ad1 had1 => ?_) ad (fun _ _ => rfl)
  refine am_o_cat (n0 := 28) (sel := [0, 1, 2, 3, 4, 5, 6, 7, 8, 9, 10, 11, 12, 13, 14, 15, 16, 17, 18, 19, 20, 21, 22, 23, 24, 25, 26]) (pre := pt9_write_41) (f := ft9_write_41) (w1 := kw_H r t ((fn8_fill u x m).2.2) y x c ((fn8_fill u x m).2.1)) (x := 2) X (am_ct_V (n := 0) (hpc := 14) X hEs hE.1 (kt9_write_41 hE hX hl) (hg_good (gw_mem 747 (by decide +kernel))) rfl (List.mem_cons_of_mem _ (gw_mem 68 (by decide +kernel))) (List.mem_cons_of_mem _ (gw_mem 744 (by decide +kernel))) (List.mem_cons_of_mem _ (gw_mem 745 (by decide +kernel))) (List.mem_cons_of_mem _ (gw_mem 746 (by decide +kernel))) pb9_write_41 (by decide +kernel) ⟨Nat.le_trans (by decide) hR1.1, Nat.le_trans (by decide) hR1.2⟩ (kdL_write_ok (3, .invokevirtual 29, 3) (List.mem_of_getElem? (i := 3) rfl)) (fun S ls rest x9 ce hW hc hv hfc => hc_w2 (own := "HoleTemplatesLaw") (args := args) (C := "java/lang/IllegalStateException") (C1 := "java/lang/UnsupportedOperationException") hpl hW X.2.2.2.1 hhd (Nat.zero_le _) (by show 3 < 8; decide) (by decide) (X.2.2.2.2.1 _ (List.mem_cons_of_mem _ (gw_mem 743 (by decide +kernel)))) (fun c9 h9 => hNo _ _ hEs _ _ hfc (Or.inr h9)) (Nat.zero_le _) (by show 3 < 8; decide) (by decide) (X.2.2.2.2.1 _ (List.mem_cons_of_mem _ (gw_mem 592 (by decide +kernel)))) hc hv hfc (hx_self hX hEs (q := (63, 59, "java/lang/IllegalStateException")) (List.mem_of_getElem? (i := 0) rfl) hfc))) rfl (ko_o r t m y x c u g) rfl ⟨r, t, m, y, x, c, u, rfl, rfl, hp⟩ (gt9_write_41 r t m y x c u) rfl (by decide) (by rw [hR]; exact Nat.le_refl _) (by rw [hR]; exact Nat.le_refl _) (kdL_write_ok (14, .astore_n 2, 1) (List.mem_of_getElem? (i := 10) rfl)) (by decide) (fun v9 h9 => by cases h9) (fun ad2 had2 => ?_)
  exact am_ev_ok X Y (fun i len pc L S w2 k j hd hr2 ad' had => am_ret_ok (T := (am_mk kbL_write 1 6 28)) (ad0 := ad) X hret hlk hd hr2 had) 1 _ (evL_write_41 _ _) ad2 (fun i hi => (had2 i hi).trans (had1 i hi))
