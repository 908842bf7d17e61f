noncomputable def ki7_isStyleWord : List (Nat × Option (List Nat) × Nat × (List am_V → List am_C → Prop) × am_M) := [(2, none, 2, pr2_length, fm2_length), (19, none, 2, pr2_length, fm2_length), (32, none, 3, pr2_at, fm2_at), (39, some [], 1, pr4_isLetterOrDigit, fm4_isLetterOrDigit), (49, some [], 2, prJ_indexOf, fmJ_indexOf)]
def kc7_isStyleWord : List (Nat × am_V) := [(111, .inr (.inr (34 + 1)))]
noncomputable def kb7_isStyleWord : am_B := (kd7_isStyleWord, am_as kf7, hn_ty, fun _ => none, am_as kc7_isStyleWord, am_as ki7_isStyleWord, fun _ => none, 5, 5, (some .boolean))
noncomputable def fn7_isStyleWord_c16 : Nat → qt2 → Int32 → Int32 → Int32 → Int32
  | 0, _, _, _, _ => 0
  | fu + 1, m, v1, v2, v3 => (if (fn2_length m v1) ≤ v3 then v2 else (if v2 = 0 then v2 else (if (fn4_isLetterOrDigit (fn2_at m v1 v3)) = 0 then (if (fnJ_indexOf 34 (fn2_at m v1 v3)) < 0 then (fn7_isStyleWord_c16 fu m v1 (0 : Int32) (v3 + (1 : Int32))) else (fn7_isStyleWord_c16 fu m v1 (1 : Int32) (v3 + (1 : Int32)))) else (fn7_isStyleWord_c16 fu m v1 (1 : Int32) (v3 + (1 : Int32))))))
def wp7_isStyleWord_c16 : Nat → qt2 → Int32 → Int32 → Int32 → Prop
  | 0, _, _, _, _ => False
  | fu + 1, m, v1, v2, v3 => ((wp2_length m v1) ∧ (((fn2_length m v1) ≤ v3 → (am_fit .boolean (.inl v2) = true)) ∧ (¬ (fn2_length m v1) ≤ v3 → ((v2 = 0 → (am_fit .boolean (.inl v2) = true)) ∧ (¬ v2 = 0 → ((wp2_at m v1 v3) ∧ ((wp4_isLetterOrDigit (fn2_at m v1 v3)) ∧ (((fn4_isLetterOrDigit (fn2_at m v1 v3)) = 0 → ((wpJ_indexOf 34 (fn2_at m v1 v3)) ∧ (((fnJ_indexOf 34 (fn2_at m v1 v3)) < 0 → (wp7_isStyleWord_c16 fu m v1 (0 : Int32) (v3 + (1 : Int32)))) ∧ (¬ (fnJ_indexOf 34 (fn2_at m v1 v3)) < 0 → (wp7_isStyleWord_c16 fu m v1 (1 : Int32) (v3 + (1 : Int32))))))) ∧ (¬ (fn4_isLetterOrDigit (fn2_at m v1 v3)) = 0 → (wp7_isStyleWord_c16 fu m v1 (1 : Int32) (v3 + (1 : Int32))))))))))))
set_option maxRecDepth 100000 in
set_option maxHeartbeats 4000000 in
theorem rc7_isStyleWord_16 : ∀ (fu : Nat) (m : qt2) (v1 : Int32) (v2 : Int32) (v3 : Int32) (j4 : Option am_V) (g4 : am_loO 5 j4 = true) , wp7_isStyleWord_c16 fu m v1 v2 v3 → am_lf (am_mk kb7_isStyleWord 0 0 5) [16] (16, [some (.inr (.inl 0)), some (.inl v1), some (.inl v2), some (.inl v3), j4], [], (kw_I m), 0, 0) = some (some (.inl (fn7_isStyleWord_c16 fu m v1 v2 v3)), (kw_I m)) := by
  intro fu
  induction fu with
  | zero =>
    intro m v1 v2 v3 j4 g4 hp
    exact hp.elim
  | succ fu ih =>
    intro m v1 v2 v3 j4 g4 hp
    unfold wp7_isStyleWord_c16 at hp
    refine am_lf_eq ?_
    generalize am_lf (am_mk kb7_isStyleWord 0 0 5) [16] = kt at ih ⊢
    refine am_cx (pre := pr2_length) (f := fm2_length) (r := (some (.inl (fn2_length m v1)), (kw_I m), 0, 0)) ?_ ?_ ?_ ?_
    · exact ⟨m, v1, rfl, rfl, hp.1⟩
    · exact fe2_length m v1
    · exact (am_ac rfl (am_ac rfl (am_ac rfl (am_ac rfl (am_ac g4 am_a0)))))
    refine am_if (c := (fn2_length m v1) ≤ v3) (fun h2 => ?_) (fun h2 => ?_)
    · have q2 := hp.2.1 h2
      refine am_ci (c := am_fit .boolean (.inl v2) = true) q2 ?_
      have e : fn7_isStyleWord_c16 (fu + 1) m v1 v2 v3 = v2 := by
        rw [fn7_isStyleWord_c16]
        rw [if_pos h2]
      rw [e] <;> rfl
    · have q2 := hp.2.2 h2
      refine am_if (c := v2 = 0) (fun h3 => ?_) (fun h3 => ?_)
      · have q3 := q2.1 h3
        refine am_ci (c := am_fit .boolean (.inl v2) = true) q3 ?_
        have e : fn7_isStyleWord_c16 (fu + 1) m v1 v2 v3 = v2 := by
          rw [fn7_isStyleWord_c16]
          rw [if_neg h2, if_pos h3]
        rw [e] <;> rfl
      · have q3 := q2.2 h3
        refine am_cx (pre := pr2_at) (f := fm2_at) (r := (some (.inl (fn2_at m v1 v3)), (kw_I m), 0, 0)) ?_ ?_ ?_ ?_
        · exact ⟨m, v1, v3, rfl, rfl, q3.1⟩
        · exact fe2_at m v1 v3
        · exact (am_ac rfl (am_ac rfl (am_ac rfl (am_ac rfl (am_ac g4 am_a0)))))
        refine am_cy (pre := pr4_isLetterOrDigit) (f := fm4_isLetterOrDigit) (r := (some (.inl (fn4_isLetterOrDigit (fn2_at m v1 v3))), [], 0, 0)) ?_ ?_ ?_
        · exact ⟨(fn2_at m v1 v3), rfl, rfl, q3.2.1⟩
        · exact fe4_isLetterOrDigit (fn2_at m v1 v3)
        refine am_sp (w' := (kw_I m)) rfl ?_
        refine am_if (c := (fn4_isLetterOrDigit (fn2_at m v1 v3)) = 0) (fun h4 => ?_) (fun h4 => ?_)
        · have q4 := q3.2.2.1 h4
          refine am_cy (pre := prJ_indexOf) (f := fmJ_indexOf) (r := (some (.inl (fnJ_indexOf 34 (fn2_at m v1 v3))), [], 0, 0)) ?_ ?_ ?_
          · exact ⟨34, (fn2_at m v1 v3), rfl, rfl, q4.1⟩
          · exact feJ_indexOf 34 (fn2_at m v1 v3)
          refine am_sp (w' := (kw_I m)) rfl ?_
          refine am_if (c := (fnJ_indexOf 34 (fn2_at m v1 v3)) < 0) (fun h5 => ?_) (fun h5 => ?_)
          · have q5 := q4.2.1 h5
            have e : fn7_isStyleWord_c16 (fu + 1) m v1 v2 v3 = fn7_isStyleWord_c16 fu m v1 (0 : Int32) (v3 + (1 : Int32)) := by
              rw [fn7_isStyleWord_c16]
              rw [if_neg h2, if_neg h3, if_pos h4, if_pos h5]
            rw [e]
            exact ih m v1 (0 : Int32) (v3 + (1 : Int32)) _ rfl q5
          · have q5 := q4.2.2 h5
            have e : fn7_isStyleWord_c16 (fu + 1) m v1 v2 v3 = fn7_isStyleWord_c16 fu m v1 (1 : Int32) (v3 + (1 : Int32)) := by
              rw [fn7_isStyleWord_c16]
              rw [if_neg h2, if_neg h3, if_pos h4, if_neg h5]
            rw [e]
            exact ih m v1 (1 : Int32) (v3 + (1 : Int32)) _ rfl q5
        · have q4 := q3.2.2.2 h4
          have e : fn7_isStyleWord_c16 (fu + 1) m v1 v2 v3 = fn7_isStyleWord_c16 fu m v1 (1 : Int32) (v3 + (1 : Int32)) := by
            rw [fn7_isStyleWord_c16]
            rw [if_neg h2, if_neg h3, if_neg h4]
          rw [e]
          exact ih m v1 (1 : Int32) (v3 + (1 : Int32)) _ rfl q4
noncomputable def fn7_isStyleWord (m : qt2) (p1 : Int32) : Int32 := Classical.choose (⟨_, rfl⟩ : ∃ z : Int32, z = (if (fn2_length m p1) ≤ 0 then (fn7_isStyleWord_c16 hg_fu m p1 (0 : Int32) (0 : Int32)) else (fn7_isStyleWord_c16 hg_fu m p1 (1 : Int32) (0 : Int32))))
theorem fq7_isStyleWord (m : qt2) (p1 : Int32) : fn7_isStyleWord m p1 = (if (fn2_length m p1) ≤ 0 then (fn7_isStyleWord_c16 hg_fu m p1 (0 : Int32) (0 : Int32)) else (fn7_isStyleWord_c16 hg_fu m p1 (1 : Int32) (0 : Int32))) := Classical.choose_spec (⟨_, rfl⟩ : ∃ z : Int32, z = (if (fn2_length m p1) ≤ 0 then (fn7_isStyleWord_c16 hg_fu m p1 (0 : Int32) (0 : Int32)) else (fn7_isStyleWord_c16 hg_fu m p1 (1 : Int32) (0 : Int32))))
def wp7_isStyleWord (m : qt2) (p1 : Int32) : Prop := ((wp2_length m p1) ∧ (((fn2_length m p1) ≤ 0 → (wp7_isStyleWord_c16 hg_fu m p1 (0 : Int32) (0 : Int32))) ∧ (¬ (fn2_length m p1) ≤ 0 → (wp7_isStyleWord_c16 hg_fu m p1 (1 : Int32) (0 : Int32)))))
set_option maxRecDepth 100000 in
set_option maxHeartbeats 4000000 in
theorem re7_isStyleWord (m : qt2) (p1 : Int32) (hp : wp7_isStyleWord m p1) : am_lf (am_mk kb7_isStyleWord 0 0 5) [16] (0, am_L0 [.inr (.inl 0), .inl p1] 5, [], (kw_I m), 0, 0) = some (some (.inl (fn7_isStyleWord m p1)), (kw_I m)) := by
  unfold wp7_isStyleWord at hp
  have i16 := @rc7_isStyleWord_16
  refine am_lf_eq ?_
  generalize am_lf (am_mk kb7_isStyleWord 0 0 5) [16] = kt at i16 ⊢
  refine am_cx (pre := pr2_length) (f := fm2_length) (r := (some (.inl (fn2_length m p1)), (kw_I m), 0, 0)) ?_ ?_ ?_ ?_
  · exact ⟨m, p1, rfl, rfl, hp.1⟩
  · exact fe2_length m p1
  · exact rfl
  refine am_if (c := (fn2_length m p1) ≤ 0) (fun h1 => ?_) (fun h1 => ?_)
  · have q1 := hp.2.1 h1
    have e : fn7_isStyleWord m p1 = fn7_isStyleWord_c16 hg_fu m p1 (0 : Int32) (0 : Int32) := by
      rw [fq7_isStyleWord]
      rw [if_pos h1]
    rw [e]
    exact i16 hg_fu m p1 (0 : Int32) (0 : Int32) _ rfl q1
  · have q1 := hp.2.2 h1
    have e : fn7_isStyleWord m p1 = fn7_isStyleWord_c16 hg_fu m p1 (1 : Int32) (0 : Int32) := by
      rw [fq7_isStyleWord]
      rw [if_neg h1]
    rw [e]
    exact i16 hg_fu m p1 (1 : Int32) (0 : Int32) _ rfl q1
abbrev pr7_isStyleWord : List am_V → List am_C → Prop := fun a w => ∃ (m : qt2) (p1 : Int32), a = [.inr (.inl 0), .inl p1] ∧ w = (kw_I m) ∧ wp7_isStyleWord m p1
noncomputable def fm7_isStyleWord : am_M := fun a w => (fun (z : Int32) => (some (.inl z), (kw_I (qs2 w 0)), 0, 0)) (fn7_isStyleWord (qs2 w 0) (am_i (am_an a 1)))
theorem fe7_isStyleWord (m : qt2) (p1 : Int32) : fm7_isStyleWord [.inr (.inl 0), .inl p1] (kw_I m) = (some (.inl (fn7_isStyleWord m p1)), (kw_I m), 0, 0) := rfl
set_option maxRecDepth 100000 in
set_option maxHeartbeats 4000000 in
theorem rn7_isStyleWord : ∀ (a : List am_V) (w : List am_C), pr7_isStyleWord a w → ∃ n, am_ev (am_mk kb7_isStyleWord (fm7_isStyleWord a w).2.2.1 (fm7_isStyleWord a w).2.2.2 w.length) [16] n (0, am_L0 a 5, [], w, 0, 0) = some ((fm7_isStyleWord a w).1, (fm7_isStyleWord a w).2.1) := by
  rintro a w ⟨m, p1, rfl, rfl, hp⟩
  rw [fe7_isStyleWord m p1]
  exact am_lf_ev (re7_isStyleWord m p1 hp)
theorem rl7_isStyleWord : ∀ (a : List am_V) (w : List am_C), pr7_isStyleWord a w → a.length ≤ 5 := by
  rintro a w ⟨m, p1, rfl, rfl, hp⟩
  exact Nat.le_of_ble_eq_true rfl
set_option maxRecDepth 100000 in
set_option maxHeartbeats 4000000 in
theorem km7_isStyleWord {l : Launch} {E : (Nat → Prop) → State → Prop} {D : va_G} {ou : Nat → Nat} {ca : Nat → ClassId} (hE : hg_E E ou) : hg_Met l E D ou ca hy7_isStyleWord prog_9_method_10_code 5 (some .boolean) 4 pr7_isStyleWord fm7_isStyleWord := by
  refine am_met (B := kb7_isStyleWord) (cuts := [16]) (nt := 5) (by decide +kernel) rfl rfl (hg_tys_ok ca) ?_ (by decide) rl7_isStyleWord ?_ rn7_isStyleWord
  · exact fun t ht => List.mem_cons_of_mem _ (hg_arr t ht)
  · intro a w hp ad p e R s m args below meth c hR X hEs hnm
    have hR1 : 4 ≤ R.frames ∧ 160 ≤ R.locals := by rw [hR]; exact ⟨Nat.le_refl _, Nat.le_refl _⟩
    have hN := hE.2.1 _ _ hEs
    have hc : ∀ q ∈ kc7_isStyleWord, am_LK s hn_R7 args ou q.1 q.2 := am_allc (hg_lk hN.2 34 rfl) (am_all0)
    refine ⟨kd7_isStyleWord_ok, fun index ci fi mode hq => kf7_ok X.2.2.2.2.1 hN.1 (index, ci, fi, mode) (am_as_mem hq), fun index ci fs hq => (am_no hq).elim, fun x v hq => hc (x, v) (am_as_mem hq), ?_, fun o t n f hq => (am_no hq).elim, rfl, rfl, by rw [hR]; exact Nat.le_refl _, by rw [hR]; exact Nat.le_refl _⟩
    intro pc sel n0 pre0 f0 hq
    have hz : ∀ q ∈ ki7_isStyleWord, am_CK p l e R s m args below meth c D hn_cl (va_A (am_w ad ou ca w) s.heap.size) ou ca 5 q.1 q.2.2.1 q.2.2.2.1 q.2.2.2.2 := by
      refine am_allc (am_ck_V (n := 1) X hEs hE.1 (km2_length hE) (hg_good (gw_mem 805 (by decide +kernel))) rfl (List.mem_cons_of_mem _ (gw_mem 71 (by decide +kernel))) (List.mem_cons_of_mem _ (gw_mem 802 (by decide +kernel))) (List.mem_cons_of_mem _ (gw_mem 803 (by decide +kernel))) (List.mem_cons_of_mem _ (gw_mem 804 (by decide +kernel))) pa2_length (by decide +kernel) ⟨Nat.le_trans (by decide) hR1.1, Nat.le_trans (by decide) hR1.2⟩ (kd7_isStyleWord_ok (2, .invokevirtual 41, 3) (List.mem_of_getElem? (i := 2) rfl))) (am_allc (am_ck_V (n := 1) X hEs hE.1 (km2_length hE) (hg_good (gw_mem 805 (by decide +kernel))) rfl (List.mem_cons_of_mem _ (gw_mem 71 (by decide +kernel))) (List.mem_cons_of_mem _ (gw_mem 802 (by decide +kernel))) (List.mem_cons_of_mem _ (gw_mem 803 (by decide +kernel))) (List.mem_cons_of_mem _ (gw_mem 804 (by decide +kernel))) pa2_length (by decide +kernel) ⟨Nat.le_trans (by decide) hR1.1, Nat.le_trans (by decide) hR1.2⟩ (kd7_isStyleWord_ok (19, .invokevirtual 41, 3) (List.mem_of_getElem? (i := 13) rfl))) (am_allc (am_ck_V (n := 2) X hEs hE.1 (km2_at hE) (hg_good (gw_mem 809 (by decide +kernel))) rfl (List.mem_cons_of_mem _ (gw_mem 71 (by decide +kernel))) (List.mem_cons_of_mem _ (gw_mem 806 (by decide +kernel))) (List.mem_cons_of_mem _ (gw_mem 807 (by decide +kernel))) (List.mem_cons_of_mem _ (gw_mem 808 (by decide +kernel))) pa2_at (by decide +kernel) ⟨Nat.le_trans (by decide) hR1.1, Nat.le_trans (by decide) hR1.2⟩ (kd7_isStyleWord_ok (32, .invokevirtual 47, 3) (List.mem_of_getElem? (i := 20) rfl))) (am_allc (am_ck_S (n := 1) X hEs hE.1 (km4_isLetterOrDigit hE) (hg_good (gw_mem 358 (by decide +kernel))) rfl (List.mem_cons_of_mem _ (gw_mem 77 (by decide +kernel))) (List.mem_cons_of_mem _ (gw_mem 901 (by decide +kernel))) (List.mem_cons_of_mem _ (gw_mem 357 (by decide +kernel))) (by decide +kernel) ⟨Nat.le_trans (by decide) hR1.1, Nat.le_trans (by decide) hR1.2⟩ (kd7_isStyleWord_ok (39, .invokestatic 65, 3) (List.mem_of_getElem? (i := 23) rfl))) (am_allc (am_ck_VS (n := 1) X hEs hE (kmJ_indexOf hE) (hg_good (gw_mem 830 (by decide +kernel))) rfl (List.mem_cons_of_mem _ (gw_mem 83 (by decide +kernel))) (List.mem_cons_of_mem _ (gw_mem 827 (by decide +kernel))) (List.mem_cons_of_mem _ (gw_mem 828 (by decide +kernel))) (List.mem_cons_of_mem _ (gw_mem 829 (by decide +kernel))) rfl paJ_indexOf (by decide +kernel) ⟨Nat.le_trans (by decide) hR1.1, Nat.le_trans (by decide) hR1.2⟩ (kd7_isStyleWord_ok (49, .invokevirtual 72, 3) (List.mem_of_getElem? (i := 27) rfl))) (am_all0)))))
    exact hz _ (am_as_mem hq)
noncomputable def ki7_putBareStyle : List (Nat × Option (List Nat) × Nat × (List am_V → List am_C → Prop) × am_M) := [(2, some [2, 3, 4, 5, 6], 2, pr7_isStyleWord, fm7_isStyleWord), (11, some [0, 1], 2, pr6_putAll, fm6_putAll), (20, some [2, 3, 4, 5, 6], 2, pr2_length, fm2_length), (30, some [2, 3, 4, 5, 6], 3, pr2_at, fm2_at), (33, some [0, 1], 2, pr6_put, fm6_put)]
def kc7_putBareStyle : List (Nat × am_V) := [(109, .inr (.inr (35 + 1)))]
noncomputable def kb7_putBareStyle : am_B := (kd7_putBareStyle, am_as kf7, hn_ty, fun _ => none, am_as kc7_putBareStyle, am_as ki7_putBareStyle, fun _ => none, 5, 4, none)
noncomputable def fn7_putBareStyle_c17 : Nat → qt6 → qt2 → Int32 → Int32 → qt6
  | 0, t, _, _, _ => t
  | fu + 1, t, m, v2, v3 => (if (fn2_length m v2) ≤ v3 then t else (fn7_putBareStyle_c17 fu ((fn6_put 1000 t (fn2_at m v2 v3)).2) m v2 (v3 + (1 : Int32))))
def wp7_putBareStyle_c17 : Nat → qt6 → qt2 → Int32 → Int32 → Prop
  | 0, _, _, _, _ => False
  | fu + 1, t, m, v2, v3 => ((wp2_length m v2) ∧ (((fn2_length m v2) ≤ v3 → True) ∧ (¬ (fn2_length m v2) ≤ v3 → ((wp2_at m v2 v3) ∧ ((wp6_put 1000 t (fn2_at m v2 v3)) ∧ (wp7_putBareStyle_c17 fu ((fn6_put 1000 t (fn2_at m v2 v3)).2) m v2 (v3 + (1 : Int32))))))))
set_option maxRecDepth 100000 in
set_option maxHeartbeats 4000000 in
theorem rc7_putBareStyle_17 : ∀ (fu : Nat) (t : qt6) (m : qt2) (v2 : Int32) (v3 : Int32) , wp7_putBareStyle_c17 fu t m v2 v3 → am_lf (am_mk kb7_putBareStyle 0 0 7) [17] (17, [some (.inr (.inl 0)), some (.inr (.inl 2)), some (.inl v2), some (.inl v3)], [], (kw_TI t m), 0, 0) = some (none, (kw_TI (fn7_putBareStyle_c17 fu t m v2 v3) m)) := by
  intro fu
  induction fu with
  | zero =>
    intro t m v2 v3 hp
    exact hp.elim
  | succ fu ih =>
    intro t m v2 v3 hp
    unfold wp7_putBareStyle_c17 at hp
    refine am_lf_eq ?_
    generalize am_lf (am_mk kb7_putBareStyle 0 0 7) [17] = kt at ih ⊢
    refine am_cy (pre := pr2_length) (f := fm2_length) (r := (some (.inl (fn2_length m v2)), (kw_I m), 0, 0)) ?_ ?_ ?_
    · exact ⟨m, v2, rfl, rfl, hp.1⟩
    · exact fe2_length m v2
    refine am_sp (w' := (kw_TI t m)) rfl ?_
    refine am_if (c := (fn2_length m v2) ≤ v3) (fun h2 => ?_) (fun h2 => ?_)
    · have e : fn7_putBareStyle_c17 (fu + 1) t m v2 v3 = t := by
        rw [fn7_putBareStyle_c17]
        rw [if_pos h2]
      rw [e] <;> rfl
    · have q2 := hp.2.2 h2
      refine am_cy (pre := pr2_at) (f := fm2_at) (r := (some (.inl (fn2_at m v2 v3)), (kw_I m), 0, 0)) ?_ ?_ ?_
      · exact ⟨m, v2, v3, rfl, rfl, q2.1⟩
      · exact fe2_at m v2 v3
      refine am_sp (w' := (kw_TI t m)) rfl ?_
      refine am_cy (pre := pr6_put) (f := fm6_put) (r := (some (.inl ((fn6_put 1000 t (fn2_at m v2 v3)).1)), (kw_T 1000 ((fn6_put 1000 t (fn2_at m v2 v3)).2)), 0, 0)) ?_ ?_ ?_
      · exact ⟨1000, t, (fn2_at m v2 v3), rfl, rfl, q2.2.1⟩
      · exact fe6_put 1000 t (fn2_at m v2 v3)
      refine am_sp (w' := (kw_TI ((fn6_put 1000 t (fn2_at m v2 v3)).2) m)) rfl ?_
      have e : fn7_putBareStyle_c17 (fu + 1) t m v2 v3 = fn7_putBareStyle_c17 fu ((fn6_put 1000 t (fn2_at m v2 v3)).2) m v2 (v3 + (1 : Int32)) := by
        rw [fn7_putBareStyle_c17]
        rw [if_neg h2]
      rw [e]
      exact ih ((fn6_put 1000 t (fn2_at m v2 v3)).2) m v2 (v3 + (1 : Int32))  q2.2.2
noncomputable def fn7_putBareStyle (t : qt6) (m : qt2) (p2 : Int32) : qt6 := Classical.choose (⟨_, rfl⟩ : ∃ z : qt6, z = (if (fn7_isStyleWord m p2) = 0 then (fn6_putAll 1000 t 35) else (fn7_putBareStyle_c17 hg_fu t m p2 (0 : Int32))))
theorem fq7_putBareStyle (t : qt6) (m : qt2) (p2 : Int32) : fn7_putBareStyle t m p2 = (if (fn7_isStyleWord m p2) = 0 then (fn6_putAll 1000 t 35) else (fn7_putBareStyle_c17 hg_fu t m p2 (0 : Int32))) := Classical.choose_spec (⟨_, rfl⟩ : ∃ z : qt6, z = (if (fn7_isStyleWord m p2) = 0 then (fn6_putAll 1000 t 35) else (fn7_putBareStyle_c17 hg_fu t m p2 (0 : Int32))))
def wp7_putBareStyle (t : qt6) (m : qt2) (p2 : Int32) : Prop := ((wp7_isStyleWord m p2) ∧ (((fn7_isStyleWord m p2) = 0 → (wp6_putAll 1000 t 35)) ∧ (¬ (fn7_isStyleWord m p2) = 0 → (wp7_putBareStyle_c17 hg_fu t m p2 (0 : Int32)))))
set_option maxRecDepth 100000 in
set_option maxHeartbeats 4000000 in
theorem re7_putBareStyle (t : qt6) (m : qt2) (p2 : Int32) (hp : wp7_putBareStyle t m p2) : am_lf (am_mk kb7_putBareStyle 0 0 7) [17] (0, am_L0 [.inr (.inl 0), .inr (.inl 2), .inl p2] 4, [], (kw_TI t m), 0, 0) = some (none, (kw_TI (fn7_putBareStyle t m p2) m)) := by
  unfold wp7_putBareStyle at hp
  have i17 := @rc7_putBareStyle_17
  refine am_lf_eq ?_
  generalize am_lf (am_mk kb7_putBareStyle 0 0 7) [17] = kt at i17 ⊢
  refine am_cy (pre := pr7_isStyleWord) (f := fm7_isStyleWord) (r := (some (.inl (fn7_isStyleWord m p2)), (kw_I m), 0, 0)) ?_ ?_ ?_
  · exact ⟨m, p2, rfl, rfl, hp.1⟩
  · exact fe7_isStyleWord m p2
  refine am_sp (w' := (kw_TI t m)) rfl ?_
  refine am_if (c := (fn7_isStyleWord m p2) = 0) (fun h1 => ?_) (fun h1 => ?_)
  · have q1 := hp.2.1 h1
    refine am_cy (pre := pr6_putAll) (f := fm6_putAll) (r := (none, (kw_T 1000 (fn6_putAll 1000 t 35)), 0, 0)) ?_ ?_ ?_
    · exact ⟨1000, t, 35, rfl, rfl, q1⟩
    · exact fe6_putAll 1000 t 35
    refine am_sp (w' := (kw_TI (fn6_putAll 1000 t 35) m)) rfl ?_
    have e : fn7_putBareStyle t m p2 = (fn6_putAll 1000 t 35) := by
      rw [fq7_putBareStyle]
      rw [if_pos h1]
    rw [e] <;> rfl
  · have q1 := hp.2.2 h1
    have e : fn7_putBareStyle t m p2 = fn7_putBareStyle_c17 hg_fu t m p2 (0 : Int32) := by
      rw [fq7_putBareStyle]
      rw [if_neg h1]
    rw [e]
    exact i17 hg_fu t m p2 (0 : Int32)  q1
abbrev pr7_putBareStyle : List am_V → List am_C → Prop := fun a w => ∃ (t : qt6) (m : qt2) (p2 : Int32), a = [.inr (.inl 0), .inr (.inl 2), .inl p2] ∧ w = (kw_TI t m) ∧ wp7_putBareStyle t m p2
noncomputable def fm7_putBareStyle : am_M := fun a w => (fun (z : qt6) => (none, (kw_TI z (qs2 w 2)), 0, 0)) (fn7_putBareStyle (qs6 w 0) (qs2 w 2) (am_i (am_an a 2)))
theorem fe7_putBareStyle (t : qt6) (m : qt2) (p2 : Int32) : fm7_putBareStyle [.inr (.inl 0), .inr (.inl 2), .inl p2] (kw_TI t m) = (none, (kw_TI (fn7_putBareStyle t m p2) m), 0, 0) := rfl
set_option maxRecDepth 100000 in
set_option maxHeartbeats 4000000 in
theorem rn7_putBareStyle : ∀ (a : List am_V) (w : List am_C), pr7_putBareStyle a w → ∃ n, am_ev (am_mk kb7_putBareStyle (fm7_putBareStyle a w).2.2.1 (fm7_putBareStyle a w).2.2.2 w.length) [17] n (0, am_L0 a 4, [], w, 0, 0) = some ((fm7_putBareStyle a w).1, (fm7_putBareStyle a w).2.1) := by
  rintro a w ⟨t, m, p2, rfl, rfl, hp⟩
  rw [fe7_putBareStyle t m p2]
  exact am_lf_ev (re7_putBareStyle t m p2 hp)
theorem rl7_putBareStyle : ∀ (a : List am_V) (w : List am_C), pr7_putBareStyle a w → a.length ≤ 4 := by
  rintro a w ⟨t, m, p2, rfl, rfl, hp⟩
  exact Nat.le_of_ble_eq_true rfl
set_option maxRecDepth 100000 in
set_option maxHeartbeats 4000000 in
theorem km7_putBareStyle {l : Launch} {E : (Nat → Prop) → State → Prop} {D : va_G} {ou : Nat → Nat} {ca : Nat → ClassId} (hE : hg_E E ou) : hg_Met l E D ou ca hy7_putBareStyle prog_9_method_9_code 4 none 5 pr7_putBareStyle fm7_putBareStyle := by
  refine am_met (B := kb7_putBareStyle) (cuts := [17]) (nt := 5) (by decide +kernel) rfl rfl (hg_tys_ok ca) ?_ (by decide) rl7_putBareStyle ?_ rn7_putBareStyle
  · exact fun t ht => List.mem_cons_of_mem _ (hg_arr t ht)
  · intro a w hp ad p e R s m args below meth c hR X hEs hnm
    have hR1 : 5 ≤ R.frames ∧ 200 ≤ R.locals := by rw [hR]; exact ⟨Nat.le_refl _, Nat.le_refl _⟩
    have hN := hE.2.1 _ _ hEs
    have hc : ∀ q ∈ kc7_putBareStyle, am_LK s hn_R7 args ou q.1 q.2 := am_allc (hg_lk hN.2 35 rfl) (am_all0)
    refine ⟨kd7_putBareStyle_ok, fun index ci fi mode hq => kf7_ok X.2.2.2.2.1 hN.1 (index, ci, fi, mode) (am_as_mem hq), fun index ci fs hq => (am_no hq).elim, fun x v hq => hc (x, v) (am_as_mem hq), ?_, fun o t n f hq => (am_no hq).elim, rfl, rfl, by rw [hR]; exact Nat.le_refl _, by rw [hR]; exact Nat.le_refl _⟩
    intro pc sel n0 pre0 f0 hq
    have hz : ∀ q ∈ ki7_putBareStyle, am_CK p l e R s m args below meth c D hn_cl (va_A (am_w ad ou ca w) s.heap.size) ou ca 4 q.1 q.2.2.1 q.2.2.2.1 q.2.2.2.2 := by
      refine am_allc (am_ck_S (n := 2) X hEs hE.1 (km7_isStyleWord hE) (hg_good (gw_mem 931 (by decide +kernel))) rfl (List.mem_cons_of_mem _ (gw_mem 90 (by decide +kernel))) (List.mem_cons_of_mem _ (gw_mem 929 (by decide +kernel))) (List.mem_cons_of_mem _ (gw_mem 930 (by decide +kernel))) (by decide +kernel) ⟨Nat.le_trans (by decide) hR1.1, Nat.le_trans (by decide) hR1.2⟩ (kd7_putBareStyle_ok (2, .invokestatic 106, 3) (List.mem_of_getElem? (i := 2) rfl))) (am_allc (am_ck_V (n := 1) X hEs hE.1 (km6_putAll hE) (hg_good (gw_mem 814 (by decide +kernel))) rfl (List.mem_cons_of_mem _ (gw_mem 69 (by decide +kernel))) (List.mem_cons_of_mem _ (gw_mem 811 (by decide +kernel))) (List.mem_cons_of_mem _ (gw_mem 812 (by decide +kernel))) (List.mem_cons_of_mem _ (gw_mem 813 (by decide +kernel))) pa6_putAll (by decide +kernel) ⟨Nat.le_trans (by decide) hR1.1, Nat.le_trans (by decide) hR1.2⟩ (kd7_putBareStyle_ok (11, .invokevirtual 21, 3) (List.mem_of_getElem? (i := 6) rfl))) (am_allc (am_ck_V (n := 1) X hEs hE.1 (km2_length hE) (hg_good (gw_mem 805 (by decide +kernel))) rfl (List.mem_cons_of_mem _ (gw_mem 71 (by decide +kernel))) (List.mem_cons_of_mem _ (gw_mem 802 (by decide +kernel))) (List.mem_cons_of_mem _ (gw_mem 803 (by decide +kernel))) (List.mem_cons_of_mem _ (gw_mem 804 (by decide +kernel))) pa2_length (by decide +kernel) ⟨Nat.le_trans (by decide) hR1.1, Nat.le_trans (by decide) hR1.2⟩ (kd7_putBareStyle_ok (20, .invokevirtual 41, 3) (List.mem_of_getElem? (i := 13) rfl))) (am_allc (am_ck_V (n := 2) X hEs hE.1 (km2_at hE) (hg_good (gw_mem 809 (by decide +kernel))) rfl (List.mem_cons_of_mem _ (gw_mem 71 (by decide +kernel))) (List.mem_cons_of_mem _ (gw_mem 806 (by decide +kernel))) (List.mem_cons_of_mem _ (gw_mem 807 (by decide +kernel))) (List.mem_cons_of_mem _ (gw_mem 808 (by decide +kernel))) pa2_at (by decide +kernel) ⟨Nat.le_trans (by decide) hR1.1, Nat.le_trans (by decide) hR1.2⟩ (kd7_putBareStyle_ok (30, .invokevirtual 47, 3) (List.mem_of_getElem? (i := 19) rfl))) (am_allc (am_ck_V (n := 1) X hEs hE.1 (km6_put hE) (hg_good (gw_mem 290 (by decide +kernel))) rfl (List.mem_cons_of_mem _ (gw_mem 69 (by decide +kernel))) (List.mem_cons_of_mem _ (gw_mem 822 (by decide +kernel))) (List.mem_cons_of_mem _ (gw_mem 288 (by decide +kernel))) (List.mem_cons_of_mem _ (gw_mem 289 (by decide +kernel))) pa6_put (by decide +kernel) ⟨Nat.le_trans (by decide) hR1.1, Nat.le_trans (by decide) hR1.2⟩ (kd7_putBareStyle_ok (33, .invokevirtual 61, 3) (List.mem_of_getElem? (i := 20) rfl))) (am_all0)))))
    exact hz _ (am_as_mem hq)
noncomputable def ki7_putStyleString : List (Nat × Option (List Nat) × Nat × (List am_V → List am_C → Prop) × am_M) := [(5, some [2, 3, 4, 5, 6], 2, pr2_length, fm2_length), (14, some [2, 3, 4, 5, 6], 3, pr2_at, fm2_at), (21, some [], 1, pr7_staysInCode, fm7_staysInCode), (30, some [0, 1], 2, pr6_put, fm6_put), (40, some [0, 1], 2, pr6_put, fm6_put), (47, some [0, 1], 2, pr6_putHex, fm6_putHex), (53, some [0, 1], 2, pr6_put, fm6_put)]
noncomputable def kb7_putStyleString : am_B := (kd7_putStyleString, am_as kf7, hn_ty, fun _ => none, fun _ => none, am_as ki7_putStyleString, fun _ => none, 5, 5, none)
noncomputable def fn7_putStyleString_c2 : Nat → qt6 → qt2 → Int32 → Int32 → qt6
  | 0, t, _, _, _ => t
  | fu + 1, t, m, v2, v3 => (if (fn2_length m v2) ≤ v3 then t else (if (fn7_staysInCode (fn2_at m v2 v3)) = 0 then (fn7_putStyleString_c2 fu ((fn6_put 1000 (fn6_putHex 1000 ((fn6_put 1000 t (92 : Int32)).2) (fn2_at m v2 v3)) (32 : Int32)).2) m v2 (v3 + (1 : Int32))) else (fn7_putStyleString_c2 fu ((fn6_put 1000 t (fn2_at m v2 v3)).2) m v2 (v3 + (1 : Int32)))))
def wp7_putStyleString_c2 : Nat → qt6 → qt2 → Int32 → Int32 → Prop
  | 0, _, _, _, _ => False
  | fu + 1, t, m, v2, v3 => ((wp2_length m v2) ∧ (((fn2_length m v2) ≤ v3 → True) ∧ (¬ (fn2_length m v2) ≤ v3 → ((wp2_at m v2 v3) ∧ ((wp7_staysInCode (fn2_at m v2 v3)) ∧ (((fn7_staysInCode (fn2_at m v2 v3)) = 0 → ((wp6_put 1000 t (92 : Int32)) ∧ ((wp6_putHex 1000 ((fn6_put 1000 t (92 : Int32)).2) (fn2_at m v2 v3)) ∧ ((wp6_put 1000 (fn6_putHex 1000 ((fn6_put 1000 t (92 : Int32)).2) (fn2_at m v2 v3)) (32 : Int32)) ∧ (wp7_putStyleString_c2 fu ((fn6_put 1000 (fn6_putHex 1000 ((fn6_put 1000 t (92 : Int32)).2) (fn2_at m v2 v3)) (32 : Int32)).2) m v2 (v3 + (1 : Int32))))))) ∧ (¬ (fn7_staysInCode (fn2_at m v2 v3)) = 0 → ((wp6_put 1000 t (fn2_at m v2 v3)) ∧ (wp7_putStyleString_c2 fu ((fn6_put 1000 t (fn2_at m v2 v3)).2) m v2 (v3 + (1 : Int32)))))))))))
set_option maxRecDepth 100000 in
set_option maxHeartbeats 4000000 in
theorem rc7_putStyleString_2 : ∀ (fu : Nat) (t : qt6) (m : qt2) (v2 : Int32) (v3 : Int32) (j4 : Option am_V) (g4 : am_loO 7 j4 = true) , wp7_putStyleString_c2 fu t m v2 v3 → am_lf (am_mk kb7_putStyleString 0 0 7) [2] (2, [some (.inr (.inl 0)), some (.inr (.inl 2)), some (.inl v2), some (.inl v3), j4], [], (kw_TI t m), 0, 0) = some (none, (kw_TI (fn7_putStyleString_c2 fu t m v2 v3) m)) := by
  intro fu
  induction fu with
  | zero =>
    intro t m v2 v3 j4 g4 hp
    exact hp.elim
  | succ fu ih =>
    intro t m v2 v3 j4 g4 hp
    unfold wp7_putStyleString_c2 at hp
    refine am_lf_eq ?_
    generalize am_lf (am_mk kb7_putStyleString 0 0 7) [2] = kt at ih ⊢
    refine am_cy (pre := pr2_length) (f := fm2_length) (r := (some (.inl (fn2_length m v2)), (kw_I m), 0, 0)) ?_ ?_ ?_
    · exact ⟨m, v2, rfl, rfl, hp.1⟩
    · exact fe2_length m v2
    refine am_sp (w' := (kw_TI t m)) rfl ?_
    refine am_if (c := (fn2_length m v2) ≤ v3) (fun h2 => ?_) (fun h2 => ?_)
    · have e : fn7_putStyleString_c2 (fu + 1) t m v2 v3 = t := by
        rw [fn7_putStyleString_c2]
        rw [if_pos h2]
      rw [e] <;> rfl
    · have q2 := hp.2.2 h2
      refine am_cy (pre := pr2_at) (f := fm2_at) (r := (some (.inl (fn2_at m v2 v3)), (kw_I m), 0, 0)) ?_ ?_ ?_
      · exact ⟨m, v2, v3, rfl, rfl, q2.1⟩
      · exact fe2_at m v2 v3
      refine am_sp (w' := (kw_TI t m)) rfl ?_
      refine am_cy (pre := pr7_staysInCode) (f := fm7_staysInCode) (r := (some (.inl (fn7_staysInCode (fn2_at m v2 v3))), [], 0, 0)) ?_ ?_ ?_
      · exact ⟨(fn2_at m v2 v3), rfl, rfl, q2.2.1⟩
      · exact fe7_staysInCode (fn2_at m v2 v3)
      refine am_sp (w' := (kw_TI t m)) rfl ?_
      refine am_if (c := (fn7_staysInCode (fn2_at m v2 v3)) = 0) (fun h3 => ?_) (fun h3 => ?_)
      · have q3 := q2.2.2.1 h3
        refine am_cy (pre := pr6_put) (f := fm6_put) (r := (some (.inl ((fn6_put 1000 t (92 : Int32)).1)), (kw_T 1000 ((fn6_put 1000 t (92 : Int32)).2)), 0, 0)) ?_ ?_ ?_
        · exact ⟨1000, t, (92 : Int32), rfl, rfl, q3.1⟩
        · exact fe6_put 1000 t (92 : Int32)
        refine am_sp (w' := (kw_TI ((fn6_put 1000 t (92 : Int32)).2) m)) rfl ?_
        refine am_cy (pre := pr6_putHex) (f := fm6_putHex) (r := (none, (kw_T 1000 (fn6_putHex 1000 ((fn6_put 1000 t (92 : Int32)).2) (fn2_at m v2 v3))), 0, 0)) ?_ ?_ ?_
        · exact ⟨1000, (fn6_put 1000 t (92 : Int32)).2, (fn2_at m v2 v3), rfl, rfl, q3.2.1⟩
        · exact fe6_putHex 1000 ((fn6_put 1000 t (92 : Int32)).2) (fn2_at m v2 v3)
        refine am_sp (w' := (kw_TI (fn6_putHex 1000 ((fn6_put 1000 t (92 : Int32)).2) (fn2_at m v2 v3)) m)) rfl ?_
        refine am_cy (pre := pr6_put) (f := fm6_put) (r := (some (.inl ((fn6_put 1000 (fn6_putHex 1000 ((fn6_put 1000 t (92 : Int32)).2) (fn2_at m v2 v3)) (32 : Int32)).1)), (kw_T 1000 ((fn6_put 1000 (fn6_putHex 1000 ((fn6_put 1000 t (92 : Int32)).2) (fn2_at m v2 v3)) (32 : Int32)).2)), 0, 0)) ?_ ?_ ?_
        · exact ⟨1000, (fn6_putHex 1000 ((fn6_put 1000 t (92 : Int32)).2) (fn2_at m v2 v3)), (32 : Int32), rfl, rfl, q3.2.2.1⟩
        · exact fe6_put 1000 (fn6_putHex 1000 ((fn6_put 1000 t (92 : Int32)).2) (fn2_at m v2 v3)) (32 : Int32)
        refine am_sp (w' := (kw_TI ((fn6_put 1000 (fn6_putHex 1000 ((fn6_put 1000 t (92 : Int32)).2) (fn2_at m v2 v3)) (32 : Int32)).2) m)) rfl ?_
        have e : fn7_putStyleString_c2 (fu + 1) t m v2 v3 = fn7_putStyleString_c2 fu ((fn6_put 1000 (fn6_putHex 1000 ((fn6_put 1000 t (92 : Int32)).2) (fn2_at m v2 v3)) (32 : Int32)).2) m v2 (v3 + (1 : Int32)) := by
          rw [fn7_putStyleString_c2]
          rw [if_neg h2, if_pos h3]
        rw [e]
        exact ih ((fn6_put 1000 (fn6_putHex 1000 ((fn6_put 1000 t (92 : Int32)).2) (fn2_at m v2 v3)) (32 : Int32)).2) m v2 (v3 + (1 : Int32)) _ rfl q3.2.2.2
      · have q3 := q2.2.2.2 h3
        refine am_cy (pre := pr6_put) (f := fm6_put) (r := (some (.inl ((fn6_put 1000 t (fn2_at m v2 v3)).1)), (kw_T 1000 ((fn6_put 1000 t (fn2_at m v2 v3)).2)), 0, 0)) ?_ ?_ ?_
        · exact ⟨1000, t, (fn2_at m v2 v3), rfl, rfl, q3.1⟩
        · exact fe6_put 1000 t (fn2_at m v2 v3)
        refine am_sp (w' := (kw_TI ((fn6_put 1000 t (fn2_at m v2 v3)).2) m)) rfl ?_
        have e : fn7_putStyleString_c2 (fu + 1) t m v2 v3 = fn7_putStyleString_c2 fu ((fn6_put 1000 t (fn2_at m v2 v3)).2) m v2 (v3 + (1 : Int32)) := by
          rw [fn7_putStyleString_c2]
          rw [if_neg h2, if_neg h3]
        rw [e]
        exact ih ((fn6_put 1000 t (fn2_at m v2 v3)).2) m v2 (v3 + (1 : Int32)) _ rfl q3.2
noncomputable def fn7_putStyleString (t : qt6) (m : qt2) (p2 : Int32) : qt6 := Classical.choose (⟨_, rfl⟩ : ∃ z : qt6, z = (fn7_putStyleString_c2 hg_fu t m p2 (0 : Int32)))
theorem fq7_putStyleString (t : qt6) (m : qt2) (p2 : Int32) : fn7_putStyleString t m p2 = (fn7_putStyleString_c2 hg_fu t m p2 (0 : Int32)) := Classical.choose_spec (⟨_, rfl⟩ : ∃ z : qt6, z = (fn7_putStyleString_c2 hg_fu t m p2 (0 : Int32)))
def wp7_putStyleString (t : qt6) (m : qt2) (p2 : Int32) : Prop := (wp7_putStyleString_c2 hg_fu t m p2 (0 : Int32))
set_option maxRecDepth 100000 in
set_option maxHeartbeats 4000000 in
theorem re7_putStyleString (t : qt6) (m : qt2) (p2 : Int32) (hp : wp7_putStyleString t m p2) : am_lf (am_mk kb7_putStyleString 0 0 7) [2] (0, am_L0 [.inr (.inl 0), .inr (.inl 2), .inl p2] 5, [], (kw_TI t m), 0, 0) = some (none, (kw_TI (fn7_putStyleString t m p2) m)) := by
  unfold wp7_putStyleString at hp
  have i2 := @rc7_putStyleString_2
  refine am_lf_eq ?_
  generalize am_lf (am_mk kb7_putStyleString 0 0 7) [2] = kt at i2 ⊢
  have e : fn7_putStyleString t m p2 = fn7_putStyleString_c2 hg_fu t m p2 (0 : Int32) := by
    rw [fq7_putStyleString]
  rw [e]
  exact i2 hg_fu t m p2 (0 : Int32) _ rfl hp
abbrev pr7_putStyleString : List am_V → List am_C → Prop := fun a w => ∃ (t : qt6) (m : qt2) (p2 : Int32), a = [.inr (.inl 0), .inr (.inl 2), .inl p2] ∧ w = (kw_TI t m) ∧ wp7_putStyleString t m p2
noncomputable def fm7_putStyleString : am_M := fun a w => (fun (z : qt6) => (none, (kw_TI z (qs2 w 2)), 0, 0)) (fn7_putStyleString (qs6 w 0) (qs2 w 2) (am_i (am_an a 2)))
theorem fe7_putStyleString (t : qt6) (m : qt2) (p2 : Int32) : fm7_putStyleString [.inr (.inl 0), .inr (.inl 2), .inl p2] (kw_TI t m) = (none, (kw_TI (fn7_putStyleString t m p2) m), 0, 0) := rfl
set_option maxRecDepth 100000 in
set_option maxHeartbeats 4000000 in
theorem rn7_putStyleString : ∀ (a : List am_V) (w : List am_C), pr7_putStyleString a w → ∃ n, am_ev (am_mk kb7_putStyleString (fm7_putStyleString a w).2.2.1 (fm7_putStyleString a w).2.2.2 w.length) [2] n (0, am_L0 a 5, [], w, 0, 0) = some ((fm7_putStyleString a w).1, (fm7_putStyleString a w).2.1) := by
  rintro a w ⟨t, m, p2, rfl, rfl, hp⟩
  rw [fe7_putStyleString t m p2]
  exact am_lf_ev (re7_putStyleString t m p2 hp)
theorem rl7_putStyleString : ∀ (a : List am_V) (w : List am_C), pr7_putStyleString a w → a.length ≤ 5 := by
  rintro a w ⟨t, m, p2, rfl, rfl, hp⟩
  exact Nat.le_of_ble_eq_true rfl
set_option maxRecDepth 100000 in
set_option maxHeartbeats 4000000 in
theorem km7_putStyleString {l : Launch} {E : (Nat → Prop) → State → Prop} {D : va_G} {ou : Nat → Nat} {ca : Nat → ClassId} (hE : hg_E E ou) : hg_Met l E D ou ca hy7_putStyleString prog_9_method_8_code 5 none 6 pr7_putStyleString fm7_putStyleString := by
  refine am_met (B := kb7_putStyleString) (cuts := [2]) (nt := 5) (by decide +kernel) rfl rfl (hg_tys_ok ca) ?_ (by decide) rl7_putStyleString ?_ rn7_putStyleString
  · exact fun t ht => List.mem_cons_of_mem _ (hg_arr t ht)
  · intro a w hp ad p e R s m args below meth c hR X hEs hnm
    have hR1 : 6 ≤ R.frames ∧ 240 ≤ R.locals := by rw [hR]; exact ⟨Nat.le_refl _, Nat.le_refl _⟩
    have hN := hE.2.1 _ _ hEs
    refine ⟨kd7_putStyleString_ok, fun index ci fi mode hq => kf7_ok X.2.2.2.2.1 hN.1 (index, ci, fi, mode) (am_as_mem hq), fun index ci fs hq => (am_no hq).elim, fun x v hq => (am_no hq).elim, ?_, fun o t n f hq => (am_no hq).elim, rfl, rfl, by rw [hR]; exact Nat.le_refl _, by rw [hR]; exact Nat.le_refl _⟩
    intro pc sel n0 pre0 f0 hq
    have hz : ∀ q ∈ ki7_putStyleString, am_CK p l e R s m args below meth c D hn_cl (va_A (am_w ad ou ca w) s.heap.size) ou ca 5 q.1 q.2.2.1 q.2.2.2.1 q.2.2.2.2 := by
      refine am_allc (am_ck_V (n := 1) X hEs hE.1 (km2_length hE) (hg_good (gw_mem 805 (by decide +kernel))) rfl (List.mem_cons_of_mem _ (gw_mem 71 (by decide +kernel))) (List.mem_cons_of_mem _ (gw_mem 802 (by decide +kernel))) (List.mem_cons_of_mem _ (gw_mem 803 (by decide +kernel))) (List.mem_cons_of_mem _ (gw_mem 804 (by decide +kernel))) pa2_length (by decide +kernel) ⟨Nat.le_trans (by decide) hR1.1, Nat.le_trans (by decide) hR1.2⟩ (kd7_putStyleString_ok (5, .invokevirtual 41, 3) (List.mem_of_getElem? (i := 5) rfl))) (am_allc (am_ck_V (n := 2) X hEs hE.1 (km2_at hE) (hg_good (gw_mem 809 (by decide +kernel))) rfl (List.mem_cons_of_mem _ (gw_mem 71 (by decide +kernel))) (List.mem_cons_of_mem _ (gw_mem 806 (by decide +kernel))) (List.mem_cons_of_mem _ (gw_mem 807 (by decide +kernel))) (List.mem_cons_of_mem _ (gw_mem 808 (by decide +kernel))) pa2_at (by decide +kernel) ⟨Nat.le_trans (by decide) hR1.1, Nat.le_trans (by decide) hR1.2⟩ (kd7_putStyleString_ok (14, .invokevirtual 47, 3) (List.mem_of_getElem? (i := 10) rfl))) (am_allc (am_ck_S (n := 1) X hEs hE.1 (km7_staysInCode hE) (hg_good (gw_mem 923 (by decide +kernel))) rfl (List.mem_cons_of_mem _ (gw_mem 90 (by decide +kernel))) (List.mem_cons_of_mem _ (gw_mem 921 (by decide +kernel))) (List.mem_cons_of_mem _ (gw_mem 922 (by decide +kernel))) (by decide +kernel) ⟨Nat.le_trans (by decide) hR1.1, Nat.le_trans (by decide) hR1.2⟩ (kd7_putStyleString_ok (21, .invokestatic 101, 3) (List.mem_of_getElem? (i := 13) rfl))) (am_allc (am_ck_V (n := 1) X hEs hE.1 (km6_put hE) (hg_good (gw_mem 290 (by decide +kernel))) rfl (List.mem_cons_of_mem _ (gw_mem 69 (by decide +kernel))) (List.mem_cons_of_mem _ (gw_mem 822 (by decide +kernel))) (List.mem_cons_of_mem _ (gw_mem 288 (by decide +kernel))) (List.mem_cons_of_mem _ (gw_mem 289 (by decide +kernel))) pa6_put (by decide +kernel) ⟨Nat.le_trans (by decide) hR1.1, Nat.le_trans (by decide) hR1.2⟩ (kd7_putStyleString_ok (30, .invokevirtual 61, 3) (List.mem_of_getElem? (i := 17) rfl))) (am_allc (am_ck_V (n := 1) X hEs hE.1 (km6_put hE) (hg_good (gw_mem 290 (by decide +kernel))) rfl (List.mem_cons_of_mem _ (gw_mem 69 (by decide +kernel))) (List.mem_cons_of_mem _ (gw_mem 822 (by decide +kernel))) (List.mem_cons_of_mem _ (gw_mem 288 (by decide +kernel))) (List.mem_cons_of_mem _ (gw_mem 289 (by decide +kernel))) pa6_put (by decide +kernel) ⟨Nat.le_trans (by decide) hR1.1, Nat.le_trans (by decide) hR1.2⟩ (kd7_putStyleString_ok (40, .invokevirtual 61, 3) (List.mem_of_getElem? (i := 22) rfl))) (am_allc (am_ck_V (n := 1) X hEs hE.1 (km6_putHex hE) (hg_good (gw_mem 907 (by decide +kernel))) rfl (List.mem_cons_of_mem _ (gw_mem 69 (by decide +kernel))) (List.mem_cons_of_mem _ (gw_mem 904 (by decide +kernel))) (List.mem_cons_of_mem _ (gw_mem 905 (by decide +kernel))) (List.mem_cons_of_mem _ (gw_mem 906 (by decide +kernel))) pa6_putHex (by decide +kernel) ⟨Nat.le_trans (by decide) hR1.1, Nat.le_trans (by decide) hR1.2⟩ (kd7_putStyleString_ok (47, .invokevirtual 79, 3) (List.mem_of_getElem? (i := 26) rfl))) (am_allc (am_ck_V (n := 1) X hEs hE.1 (km6_put hE) (hg_good (gw_mem 290 (by decide +kernel))) rfl (List.mem_cons_of_mem _ (gw_mem 69 (by decide +kernel))) (List.mem_cons_of_mem _ (gw_mem 822 (by decide +kernel))) (List.mem_cons_of_mem _ (gw_mem 288 (by decide +kernel))) (List.mem_cons_of_mem _ (gw_mem 289 (by decide +kernel))) pa6_put (by decide +kernel) ⟨Nat.le_trans (by decide) hR1.1, Nat.le_trans (by decide) hR1.2⟩ (kd7_putStyleString_ok (53, .invokevirtual 61, 3) (List.mem_of_getElem? (i := 29) rfl))) (am_all0)))))))
    exact hz _ (am_as_mem hq)
noncomputable def ki7_put : List (Nat × Option (List Nat) × Nat × (List am_V → List am_C → Prop) × am_M) := [(26, none, 3, pr7_putMarkup, fm7_putMarkup), (39, some [2, 3, 4, 5, 6], 2, pr7_hasForeignScheme, fm7_hasForeignScheme), (48, some [0, 1], 2, pr6_putAll, fm6_putAll), (66, none, 4, pr7_putUrl, fm7_putUrl), (88, none, 5, pr7_putScript, fm7_putScript), (102, none, 3, pr7_putBareStyle, fm7_putBareStyle), (111, none, 3, pr7_putStyleString, fm7_putStyleString)]
def kc7_put : List (Nat × am_V) := [(19, .inr (.inr (26 + 1)))]
noncomputable def kb7_put : am_B := (kd7_put, am_as kf7, hn_ty, fun _ => none, am_as kc7_put, am_as ki7_put, fun _ => none, 5, 6, none)
noncomputable def fn7_put_c54 (t : qt6) (m : qt2) (v2 : Int32) (v3 : Int32) (v4 : Int32) (v5 : Int32) : qt6 := (if (8 : Int32) ≤ v3 then (if (v3 &&& (12 : Int32)) = (8 : Int32) then (fn7_putScript t m v2 v4 v5) else (if v4 = 0 then (fn7_putBareStyle t m v2) else (fn7_putStyleString t m v2))) else (fn7_putUrl t m v2 (v3 - (2 : Int32))))
def wp7_put_c54 (t : qt6) (m : qt2) (v2 : Int32) (v3 : Int32) (v4 : Int32) (v5 : Int32) : Prop := (((8 : Int32) ≤ v3 → (((v3 &&& (12 : Int32)) = (8 : Int32) → (wp7_putScript t m v2 v4 v5)) ∧ (¬ (v3 &&& (12 : Int32)) = (8 : Int32) → ((v4 = 0 → (wp7_putBareStyle t m v2)) ∧ (¬ v4 = 0 → (wp7_putStyleString t m v2)))))) ∧ (¬ (8 : Int32) ≤ v3 → (wp7_putUrl t m v2 (v3 - (2 : Int32)))))
set_option maxRecDepth 100000 in
set_option maxHeartbeats 4000000 in
theorem rc7_put_54 (t : qt6) (m : qt2) (v2 : Int32) (v3 : Int32) (v4 : Int32) (v5 : Int32) (hp : wp7_put_c54 t m v2 v3 v4 v5) : am_lf (am_mk kb7_put 0 0 7) [16, 54] (54, [some (.inr (.inl 0)), some (.inr (.inl 2)), some (.inl v2), some (.inl v3), some (.inl v4), some (.inl v5)], [], (kw_TI t m), 0, 0) = some (none, (kw_TI (fn7_put_c54 t m v2 v3 v4 v5) m)) := by
  unfold wp7_put_c54 at hp
  refine am_lf_eq ?_
  generalize am_lf (am_mk kb7_put 0 0 7) [16, 54] = kt
  refine am_if (c := (8 : Int32) ≤ v3) (fun h1 => ?_) (fun h1 => ?_)
  · have q1 := hp.1 h1
    refine am_if (c := (v3 &&& (12 : Int32)) = (8 : Int32)) (fun h2 => ?_) (fun h2 => ?_)
    · have q2 := q1.1 h2
      refine am_cx (pre := pr7_putScript) (f := fm7_putScript) (r := (none, (kw_TI (fn7_putScript t m v2 v4 v5) m), 0, 0)) ?_ ?_ ?_ ?_
      · exact ⟨t, m, v2, v4, v5, rfl, rfl, q2⟩
      · exact fe7_putScript t m v2 v4 v5
      · exact rfl
      have e : fn7_put_c54 t m v2 v3 v4 v5 = (fn7_putScript t m v2 v4 v5) := by
        rw [fn7_put_c54]
        rw [if_pos h1, if_pos h2]
      rw [e] <;> rfl
    · have q2 := q1.2 h2
      refine am_if (c := v4 = 0) (fun h3 => ?_) (fun h3 => ?_)
      · have q3 := q2.1 h3
        refine am_cx (pre := pr7_putBareStyle) (f := fm7_putBareStyle) (r := (none, (kw_TI (fn7_putBareStyle t m v2) m), 0, 0)) ?_ ?_ ?_ ?_
        · exact ⟨t, m, v2, rfl, rfl, q3⟩
        · exact fe7_putBareStyle t m v2
        · exact rfl
        have e : fn7_put_c54 t m v2 v3 v4 v5 = (fn7_putBareStyle t m v2) := by
          rw [fn7_put_c54]
          rw [if_pos h1, if_neg h2, if_pos h3]
        rw [e] <;> rfl
      · have q3 := q2.2 h3
        refine am_cx (pre := pr7_putStyleString) (f := fm7_putStyleString) (r := (none, (kw_TI (fn7_putStyleString t m v2) m), 0, 0)) ?_ ?_ ?_ ?_
        · exact ⟨t, m, v2, rfl, rfl, q3⟩
        · exact fe7_putStyleString t m v2
        · exact rfl
        have e : fn7_put_c54 t m v2 v3 v4 v5 = (fn7_putStyleString t m v2) := by
          rw [fn7_put_c54]
          rw [if_pos h1, if_neg h2, if_neg h3]
        rw [e] <;> rfl
  · have q1 := hp.2 h1
    refine am_cx (pre := pr7_putUrl) (f := fm7_putUrl) (r := (none, (kw_TI (fn7_putUrl t m v2 (v3 - (2 : Int32))) m), 0, 0)) ?_ ?_ ?_ ?_
    · exact ⟨t, m, v2, (v3 - (2 : Int32)), rfl, rfl, q1⟩
    · exact fe7_putUrl t m v2 (v3 - (2 : Int32))
    · exact rfl
    have e : fn7_put_c54 t m v2 v3 v4 v5 = (fn7_putUrl t m v2 (v3 - (2 : Int32))) := by
      rw [fn7_put_c54]
      rw [if_neg h1]
    rw [e] <;> rfl
noncomputable def fn7_put_c16 (t : qt6) (m : qt2) (v2 : Int32) (v3 : Int32) (v4 : Int32) (u0 : Int32) : qt6 := (if (2 : Int32) ≤ v3 then (if v3 = (2 : Int32) then (if (fn7_hasForeignScheme m v2) = 0 then (fn7_put_c54 t m v2 v3 v4 u0) else (fn6_putAll 1000 t 26)) else (fn7_put_c54 t m v2 v3 v4 u0)) else (fn7_putMarkup t m v2))
def wp7_put_c16 (t : qt6) (m : qt2) (v2 : Int32) (v3 : Int32) (v4 : Int32) (u0 : Int32) : Prop := (((2 : Int32) ≤ v3 → ((v3 = (2 : Int32) → ((wp7_hasForeignScheme m v2) ∧ (((fn7_hasForeignScheme m v2) = 0 → (wp7_put_c54 t m v2 v3 v4 u0)) ∧ (¬ (fn7_hasForeignScheme m v2) = 0 → (wp6_putAll 1000 t 26))))) ∧ (¬ v3 = (2 : Int32) → (wp7_put_c54 t m v2 v3 v4 u0)))) ∧ (¬ (2 : Int32) ≤ v3 → (wp7_putMarkup t m v2)))
set_option maxRecDepth 100000 in
set_option maxHeartbeats 4000000 in
theorem rc7_put_16 (t : qt6) (m : qt2) (v2 : Int32) (v3 : Int32) (v4 : Int32) (u0 : Int32) (j5 : Option am_V) (g5 : am_loO 7 j5 = true) (hp : wp7_put_c16 t m v2 v3 v4 u0) : am_lf (am_mk kb7_put 0 0 7) [16, 54] (16, [some (.inr (.inl 0)), some (.inr (.inl 2)), some (.inl v2), some (.inl v3), some (.inl v4), j5], [.inl u0], (kw_TI t m), 0, 0) = some (none, (kw_TI (fn7_put_c16 t m v2 v3 v4 u0) m)) := by
  unfold wp7_put_c16 at hp
  have i54 := @rc7_put_54
  refine am_lf_eq ?_
  generalize am_lf (am_mk kb7_put 0 0 7) [16, 54] = kt at i54 ⊢
  refine am_if (c := (2 : Int32) ≤ v3) (fun h1 => ?_) (fun h1 => ?_)
  · have q1 := hp.1 h1
    refine am_if (c := v3 = (2 : Int32)) (fun h2 => ?_) (fun h2 => ?_)
    · have q2 := q1.1 h2
      refine am_cy (pre := pr7_hasForeignScheme) (f := fm7_hasForeignScheme) (r := (some (.inl (fn7_hasForeignScheme m v2)), (kw_I m), 0, 0)) ?_ ?_ ?_
      · exact ⟨m, v2, rfl, rfl, q2.1⟩
      · exact fe7_hasForeignScheme m v2
      refine am_sp (w' := (kw_TI t m)) rfl ?_
      refine am_if (c := (fn7_hasForeignScheme m v2) = 0) (fun h3 => ?_) (fun h3 => ?_)
      · have q3 := q2.2.1 h3
        have e : fn7_put_c16 t m v2 v3 v4 u0 = fn7_put_c54 t m v2 v3 v4 u0 := by
          rw [fn7_put_c16]
          rw [if_pos h1, if_pos h2, if_pos h3]
        rw [e]
        exact i54 t m v2 v3 v4 u0  q3
      · have q3 := q2.2.2 h3
        refine am_cy (pre := pr6_putAll) (f := fm6_putAll) (r := (none, (kw_T 1000 (fn6_putAll 1000 t 26)), 0, 0)) ?_ ?_ ?_
        · exact ⟨1000, t, 26, rfl, rfl, q3⟩
        · exact fe6_putAll 1000 t 26
        refine am_sp (w' := (kw_TI (fn6_putAll 1000 t 26) m)) rfl ?_
        have e : fn7_put_c16 t m v2 v3 v4 u0 = (fn6_putAll 1000 t 26) := by
          rw [fn7_put_c16]
          rw [if_pos h1, if_pos h2, if_neg h3]
        rw [e] <;> rfl
    · have q2 := q1.2 h2
      have e : fn7_put_c16 t m v2 v3 v4 u0 = fn7_put_c54 t m v2 v3 v4 u0 := by
        rw [fn7_put_c16]
        rw [if_pos h1, if_neg h2]
      rw [e]
      exact i54 t m v2 v3 v4 u0  q2
  · have q1 := hp.2 h1
    refine am_cx (pre := pr7_putMarkup) (f := fm7_putMarkup) (r := (none, (kw_TI (fn7_putMarkup t m v2) m), 0, 0)) ?_ ?_ ?_ ?_
    · exact ⟨t, m, v2, rfl, rfl, q1⟩
    · exact fe7_putMarkup t m v2
    · exact rfl
    have e : fn7_put_c16 t m v2 v3 v4 u0 = (fn7_putMarkup t m v2) := by
      rw [fn7_put_c16]
      rw [if_neg h1]
    rw [e] <;> rfl
noncomputable def fn7_put (t : qt6) (m : qt2) (p2 : Int32) (p3 : Int32) : qt6 := Classical.choose (⟨_, rfl⟩ : ∃ z : qt6, z = (if p3 < (16 : Int32) then (fn7_put_c16 t m p2 p3 (p3 &&& (3 : Int32)) (0 : Int32)) else (fn7_put_c16 t m p2 p3 (p3 &&& (3 : Int32)) (1 : Int32))))
theorem fq7_put (t : qt6) (m : qt2) (p2 : Int32) (p3 : Int32) : fn7_put t m p2 p3 = (if p3 < (16 : Int32) then (fn7_put_c16 t m p2 p3 (p3 &&& (3 : Int32)) (0 : Int32)) else (fn7_put_c16 t m p2 p3 (p3 &&& (3 : Int32)) (1 : Int32))) := Classical.choose_spec (⟨_, rfl⟩ : ∃ z : qt6, z = (if p3 < (16 : Int32) then (fn7_put_c16 t m p2 p3 (p3 &&& (3 : Int32)) (0 : Int32)) else (fn7_put_c16 t m p2 p3 (p3 &&& (3 : Int32)) (1 : Int32))))
def wp7_put (t : qt6) (m : qt2) (p2 : Int32) (p3 : Int32) : Prop := ((p3 < (16 : Int32) → (wp7_put_c16 t m p2 p3 (p3 &&& (3 : Int32)) (0 : Int32))) ∧ (¬ p3 < (16 : Int32) → (wp7_put_c16 t m p2 p3 (p3 &&& (3 : Int32)) (1 : Int32))))
set_option maxRecDepth 100000 in
set_option maxHeartbeats 4000000 in
theorem re7_put (t : qt6) (m : qt2) (p2 : Int32) (p3 : Int32) (hp : wp7_put t m p2 p3) : am_lf (am_mk kb7_put 0 0 7) [16, 54] (0, am_L0 [.inr (.inl 0), .inr (.inl 2), .inl p2, .inl p3] 6, [], (kw_TI t m), 0, 0) = some (none, (kw_TI (fn7_put t m p2 p3) m)) := by
  unfold wp7_put at hp
  have i16 := @rc7_put_16
  refine am_lf_eq ?_
  generalize am_lf (am_mk kb7_put 0 0 7) [16, 54] = kt at i16 ⊢
  refine am_if (c := p3 < (16 : Int32)) (fun h1 => ?_) (fun h1 => ?_)
  · have q1 := hp.1 h1
    have e : fn7_put t m p2 p3 = fn7_put_c16 t m p2 p3 (p3 &&& (3 : Int32)) (0 : Int32) := by
      rw [fq7_put]
      rw [if_pos h1]
    rw [e]
    exact i16 t m p2 p3 (p3 &&& (3 : Int32)) (0 : Int32) _ rfl q1
  · have q1 := hp.2 h1
    have e : fn7_put t m p2 p3 = fn7_put_c16 t m p2 p3 (p3 &&& (3 : Int32)) (1 : Int32) := by
      rw [fq7_put]
      rw [if_neg h1]
    rw [e]
    exact i16 t m p2 p3 (p3 &&& (3 : Int32)) (1 : Int32) _ rfl q1
abbrev pr7_put : List am_V → List am_C → Prop := fun a w => ∃ (t : qt6) (m : qt2) (p2 : Int32) (p3 : Int32), a = [.inr (.inl 0), .inr (.inl 2), .inl p2, .inl p3] ∧ w = (kw_TI t m) ∧ wp7_put t m p2 p3
noncomputable def fm7_put : am_M := fun a w => (fun (z : qt6) => (none, (kw_TI z (qs2 w 2)), 0, 0)) (fn7_put (qs6 w 0) (qs2 w 2) (am_i (am_an a 2)) (am_i (am_an a 3)))
theorem fe7_put (t : qt6) (m : qt2) (p2 : Int32) (p3 : Int32) : fm7_put [.inr (.inl 0), .inr (.inl 2), .inl p2, .inl p3] (kw_TI t m) = (none, (kw_TI (fn7_put t m p2 p3) m), 0, 0) := rfl
set_option maxRecDepth 100000 in
set_option maxHeartbeats 4000000 in
theorem rn7_put : ∀ (a : List am_V) (w : List am_C), pr7_put a w → ∃ n, am_ev (am_mk kb7_put (fm7_put a w).2.2.1 (fm7_put a w).2.2.2 w.length) [16, 54] n (0, am_L0 a 6, [], w, 0, 0) = some ((fm7_put a w).1, (fm7_put a w).2.1) := by
  rintro a w ⟨t, m, p2, p3, rfl, rfl, hp⟩
  rw [fe7_put t m p2 p3]
  exact am_lf_ev (re7_put t m p2 p3 hp)
theorem rl7_put : ∀ (a : List am_V) (w : List am_C), pr7_put a w → a.length ≤ 6 := by
  rintro a w ⟨t, m, p2, p3, rfl, rfl, hp⟩
  exact Nat.le_of_ble_eq_true rfl
set_option maxRecDepth 100000 in
set_option maxHeartbeats 4000000 in
theorem km7_put {l : Launch} {E : (Nat → Prop) → State → Prop} {D : va_G} {ou : Nat → Nat} {ca : Nat → ClassId} (hE : hg_E E ou) : hg_Met l E D ou ca hy7_put prog_9_method_2_code 6 none 7 pr7_put fm7_put := by
  refine am_met (B := kb7_put) (cuts := [16, 54]) (nt := 5) (by decide +kernel) rfl rfl (hg_tys_ok ca) ?_ (by decide) rl7_put ?_ rn7_put
  · exact fun t ht => List.mem_cons_of_mem _ (hg_arr t ht)
  · intro a w hp ad p e R s m args below meth c hR X hEs hnm
    have hR1 : 7 ≤ R.frames ∧ 280 ≤ R.locals := by rw [hR]; exact ⟨Nat.le_refl _, Nat.le_refl _⟩
    have hN := hE.2.1 _ _ hEs
    have hc : ∀ q ∈ kc7_put, am_LK s hn_R7 args ou q.1 q.2 := am_allc (hg_lk hN.2 26 rfl) (am_all0)
    refine ⟨kd7_put_ok, fun index ci fi mode hq => kf7_ok X.2.2.2.2.1 hN.1 (index, ci, fi, mode) (am_as_mem hq), fun index ci fs hq => (am_no hq).elim, fun x v hq => hc (x, v) (am_as_mem hq), ?_, fun o t n f hq => (am_no hq).elim, rfl, rfl, by rw [hR]; exact Nat.le_refl _, by rw [hR]; exact Nat.le_refl _⟩
    intro pc sel n0 pre0 f0 hq
    have hz : ∀ q ∈ ki7_put, am_CK p l e R s m args below meth c D hn_cl (va_A (am_w ad ou ca w) s.heap.size) ou ca 6 q.1 q.2.2.1 q.2.2.2.1 q.2.2.2.2 := by
      refine am_allc (am_ck_S (n := 3) X hEs hE.1 (km7_putMarkup hE) (hg_good (gw_mem 801 (by decide +kernel))) rfl (List.mem_cons_of_mem _ (gw_mem 90 (by decide +kernel))) (List.mem_cons_of_mem _ (gw_mem 799 (by decide +kernel))) (List.mem_cons_of_mem _ (gw_mem 800 (by decide +kernel))) (by decide +kernel) ⟨Nat.le_trans (by decide) hR1.1, Nat.le_trans (by decide) hR1.2⟩ (kd7_put_ok (26, .invokestatic 9, 3) (List.mem_of_getElem? (i := 17) rfl))) (am_allc (am_ck_S (n := 2) X hEs hE.1 (km7_hasForeignScheme hE) (hg_good (gw_mem 825 (by decide +kernel))) rfl (List.mem_cons_of_mem _ (gw_mem 90 (by decide +kernel))) (List.mem_cons_of_mem _ (gw_mem 823 (by decide +kernel))) (List.mem_cons_of_mem _ (gw_mem 824 (by decide +kernel))) (by decide +kernel) ⟨Nat.le_trans (by decide) hR1.1, Nat.le_trans (by decide) hR1.2⟩ (kd7_put_ok (39, .invokestatic 15, 3) (List.mem_of_getElem? (i := 24) rfl))) (am_allc (am_ck_V (n := 1) X hEs hE.1 (km6_putAll hE) (hg_good (gw_mem 814 (by decide +kernel))) rfl (List.mem_cons_of_mem _ (gw_mem 69 (by decide +kernel))) (List.mem_cons_of_mem _ (gw_mem 811 (by decide +kernel))) (List.mem_cons_of_mem _ (gw_mem 812 (by decide +kernel))) (List.mem_cons_of_mem _ (gw_mem 813 (by decide +kernel))) pa6_putAll (by decide +kernel) ⟨Nat.le_trans (by decide) hR1.1, Nat.le_trans (by decide) hR1.2⟩ (kd7_put_ok (48, .invokevirtual 21, 3) (List.mem_of_getElem? (i := 28) rfl))) (am_allc (am_ck_S (n := 4) X hEs hE.1 (km7_putUrl hE) (hg_good (gw_mem 900 (by decide +kernel))) rfl (List.mem_cons_of_mem _ (gw_mem 90 (by decide +kernel))) (List.mem_cons_of_mem _ (gw_mem 898 (by decide +kernel))) (List.mem_cons_of_mem _ (gw_mem 899 (by decide +kernel))) (by decide +kernel) ⟨Nat.le_trans (by decide) hR1.1, Nat.le_trans (by decide) hR1.2⟩ (kd7_put_ok (66, .invokestatic 27, 3) (List.mem_of_getElem? (i := 39) rfl))) (am_allc (am_ck_S (n := 5) X hEs hE.1 (km7_putScript hE) (hg_good (gw_mem 918 (by decide +kernel))) rfl (List.mem_cons_of_mem _ (gw_mem 90 (by decide +kernel))) (List.mem_cons_of_mem _ (gw_mem 916 (by decide +kernel))) (List.mem_cons_of_mem _ (gw_mem 917 (by decide +kernel))) (by decide +kernel) ⟨Nat.le_trans (by decide) hR1.1, Nat.le_trans (by decide) hR1.2⟩ (kd7_put_ok (88, .invokestatic 31, 3) (List.mem_of_getElem? (i := 51) rfl))) (am_allc (am_ck_S (n := 3) X hEs hE.1 (km7_putBareStyle hE) (hg_good (gw_mem 928 (by decide +kernel))) rfl (List.mem_cons_of_mem _ (gw_mem 90 (by decide +kernel))) (List.mem_cons_of_mem _ (gw_mem 926 (by decide +kernel))) (List.mem_cons_of_mem _ (gw_mem 927 (by decide +kernel))) (by decide +kernel) ⟨Nat.le_trans (by decide) hR1.1, Nat.le_trans (by decide) hR1.2⟩ (kd7_put_ok (102, .invokestatic 35, 3) (List.mem_of_getElem? (i := 58) rfl))) (am_allc (am_ck_S (n := 3) X hEs hE.1 (km7_putStyleString hE) (hg_good (gw_mem 936 (by decide +kernel))) rfl (List.mem_cons_of_mem _ (gw_mem 90 (by decide +kernel))) (List.mem_cons_of_mem _ (gw_mem 934 (by decide +kernel))) (List.mem_cons_of_mem _ (gw_mem 935 (by decide +kernel))) (by decide +kernel) ⟨Nat.le_trans (by decide) hR1.1, Nat.le_trans (by decide) hR1.2⟩ (kd7_put_ok (111, .invokestatic 38, 3) (List.mem_of_getElem? (i := 63) rfl))) (am_all0)))))))
    exact hz _ (am_as_mem hq)
noncomputable def ki9_type : List (Nat × Option (List Nat) × Nat × (List am_V → List am_C → Prop) × am_M) := [(1, some [], 1, pr4_isWritable, fm4_isWritable), (12, some [1, 2], 2, pr6_put, fm6_put)]
noncomputable def kb9_type : am_B := (kd9_type, am_as kf9, hn_ty, fun _ => none, fun _ => none, am_as ki9_type, fun _ => none, 5, 2, (some .boolean))
noncomputable def fn9_type (r : qt6) (t : qt6) (m : qt2) (y : qt0) (x : qt5) (c : qt1) (u : qt6) (p0 : Int32) : Int32 × qt6 := Classical.choose (⟨_, rfl⟩ : ∃ z : Int32 × qt6, z = (if (fn4_isWritable p0) = 0 then ((0 : Int32), r) else (if (fn6_put 40 r p0).1 = 0 then ((0 : Int32), (fn6_put 40 r p0).2) else ((1 : Int32), (fn6_put 40 r p0).2))))
theorem fq9_type (r : qt6) (t : qt6) (m : qt2) (y : qt0) (x : qt5) (c : qt1) (u : qt6) (p0 : Int32) : fn9_type r t m y x c u p0 = (if (fn4_isWritable p0) = 0 then ((0 : Int32), r) else (if (fn6_put 40 r p0).1 = 0 then ((0 : Int32), (fn6_put 40 r p0).2) else ((1 : Int32), (fn6_put 40 r p0).2))) := Classical.choose_spec (⟨_, rfl⟩ : ∃ z : Int32 × qt6, z = (if (fn4_isWritable p0) = 0 then ((0 : Int32), r) else (if (fn6_put 40 r p0).1 = 0 then ((0 : Int32), (fn6_put 40 r p0).2) else ((1 : Int32), (fn6_put 40 r p0).2))))
def wp9_type (r : qt6) (t : qt6) (m : qt2) (y : qt0) (x : qt5) (c : qt1) (u : qt6) (p0 : Int32) : Prop := ((wp4_isWritable p0) ∧ (((fn4_isWritable p0) = 0 → True) ∧ (¬ (fn4_isWritable p0) = 0 → (wp6_put 40 r p0))))
set_option maxRecDepth 100000 in
set_option maxHeartbeats 4000000 in
theorem re9_type (r : qt6) (t : qt6) (m : qt2) (y : qt0) (x : qt5) (c : qt1) (u : qt6) (p0 : Int32) (hp : wp9_type r t m y x c u p0) : am_lf (am_mk kb9_type 0 0 27) [] (0, am_L0 [.inr (.inl 0), .inl p0] 2, [], (kw_H r t m y x c u), 0, 0) = some (some (.inl ((fn9_type r t m y x c u p0).1)), (kw_H ((fn9_type r t m y x c u p0).2) t m y x c u)) := by
  unfold wp9_type at hp
  refine am_lf_eq ?_
  generalize am_lf (am_mk kb9_type 0 0 27) [] = kt
  refine am_cy (pre := pr4_isWritable) (f := fm4_isWritable) (r := (some (.inl (fn4_isWritable p0)), [], 0, 0)) ?_ ?_ ?_
  · exact ⟨p0, rfl, rfl, hp.1⟩
  · exact fe4_isWritable p0
  refine am_sp (w' := (kw_H r t m y x c u)) rfl ?_
  refine am_if (c := (fn4_isWritable p0) = 0) (fun h1 => ?_) (fun h1 => ?_)
  · have e : fn9_type r t m y x c u p0 = ((0 : Int32), r) := by
      rw [fq9_type]
      rw [if_pos h1]
    rw [e] <;> rfl
  · have q1 := hp.2.2 h1
    refine am_cy (pre := pr6_put) (f := fm6_put) (r := (some (.inl ((fn6_put 40 r p0).1)), (kw_T 40 ((fn6_put 40 r p0).2)), 0, 0)) ?_ ?_ ?_
    · exact ⟨40, r, p0, rfl, rfl, q1⟩
    · exact fe6_put 40 r p0
    refine am_sp (w' := (kw_H ((fn6_put 40 r p0).2) t m y x c u)) rfl ?_
    refine am_if (c := (fn6_put 40 r p0).1 = 0) (fun h2 => ?_) (fun h2 => ?_)
    · have e : fn9_type r t m y x c u p0 = ((0 : Int32), (fn6_put 40 r p0).2) := by
        rw [fq9_type]
        rw [if_neg h1, if_pos h2]
      rw [e] <;> rfl
    · have e : fn9_type r t m y x c u p0 = ((1 : Int32), (fn6_put 40 r p0).2) := by
        rw [fq9_type]
        rw [if_neg h1, if_neg h2]
      rw [e] <;> rfl
abbrev pr9_type : List am_V → List am_C → Prop := fun a w => ∃ (r : qt6) (t : qt6) (m : qt2) (y : qt0) (x : qt5) (c : qt1) (u : qt6) (p0 : Int32), a = [.inr (.inl 0), .inl p0] ∧ w = (kw_H r t m y x c u) ∧ wp9_type r t m y x c u p0
noncomputable def fm9_type : am_M := fun a w => (fun (z : Int32 × qt6) => (some (.inl (z.1)), (kw_H (z.2) (qs6 w 3) (qs2 w 5) (qs0 w 10) (qs5 w 15) (qs1 w 23) (qs6 w 25)), 0, 0)) (fn9_type (qs6 w 1) (qs6 w 3) (qs2 w 5) (qs0 w 10) (qs5 w 15) (qs1 w 23) (qs6 w 25) (am_i (am_an a 1)))
theorem fe9_type (r : qt6) (t : qt6) (m : qt2) (y : qt0) (x : qt5) (c : qt1) (u : qt6) (p0 : Int32) : fm9_type [.inr (.inl 0), .inl p0] (kw_H r t m y x c u) = (some (.inl ((fn9_type r t m y x c u p0).1)), (kw_H ((fn9_type r t m y x c u p0).2) t m y x c u), 0, 0) := rfl
set_option maxRecDepth 100000 in
set_option maxHeartbeats 4000000 in
theorem rn9_type : ∀ (a : List am_V) (w : List am_C), pr9_type a w → ∃ n, am_ev (am_mk kb9_type (fm9_type a w).2.2.1 (fm9_type a w).2.2.2 w.length) [] n (0, am_L0 a 2, [], w, 0, 0) = some ((fm9_type a w).1, (fm9_type a w).2.1) := by
  rintro a w ⟨r, t, m, y, x, c, u, p0, rfl, rfl, hp⟩
  rw [fe9_type r t m y x c u p0]
  exact am_lf_ev (re9_type r t m y x c u p0 hp)
theorem rl9_type : ∀ (a : List am_V) (w : List am_C), pr9_type a w → a.length ≤ 2 := by
  rintro a w ⟨r, t, m, y, x, c, u, p0, rfl, rfl, hp⟩
  exact Nat.le_of_ble_eq_true rfl
theorem pa9_type : ∀ a w, pr9_type a w → ∃ q a' ci fs r, a = .inr (.inl q) :: a' ∧ w[q]? = some (.inr (ci, fs)) ∧ hn_cl[ci]? = some r ∧ r.1 = hn_R9 := by
  rintro a w ⟨r, t, m, y, x, c, u, p0, rfl, rfl, hp⟩
  exact ⟨0, _, 9, _, _, rfl, rfl, rfl, rfl⟩
set_option maxRecDepth 100000 in
set_option maxHeartbeats 4000000 in
theorem km9_type {l : Launch} {E : (Nat → Prop) → State → Prop} {D : va_G} {ou : Nat → Nat} {ca : Nat → ClassId} (hE : hg_E E ou) : hg_Met l E D ou ca hy9_type prog_1_method_2_code 2 (some .boolean) 1 pr9_type fm9_type := by
  refine am_met (B := kb9_type) (cuts := []) (nt := 5) (by decide +kernel) rfl rfl (hg_tys_ok ca) ?_ (by decide) rl9_type ?_ rn9_type
  · exact fun t ht => List.mem_cons_of_mem _ (hg_arr t ht)
  · intro a w hp ad p e R s m args below meth c hR X hEs hnm
    have hR1 : 1 ≤ R.frames ∧ 40 ≤ R.locals := by rw [hR]; exact ⟨Nat.le_refl _, Nat.le_refl _⟩
    have hN := hE.2.1 _ _ hEs
    refine ⟨kd9_type_ok, fun index ci fi mode hq => kf9_ok X.2.2.2.2.1 hN.1 (index, ci, fi, mode) (am_as_mem hq), fun index ci fs hq => (am_no hq).elim, fun x v hq => (am_no hq).elim, ?_, fun o t n f hq => (am_no hq).elim, rfl, rfl, by rw [hR]; exact Nat.le_refl _, by rw [hR]; exact Nat.le_refl _⟩
    intro pc sel n0 pre0 f0 hq
    have hz : ∀ q ∈ ki9_type, am_CK p l e R s m args below meth c D hn_cl (va_A (am_w ad ou ca w) s.heap.size) ou ca 2 q.1 q.2.2.1 q.2.2.2.1 q.2.2.2.2 := by
      refine am_allc (am_ck_S (n := 1) X hEs hE.1 (km4_isWritable hE) (hg_good (gw_mem 286 (by decide +kernel))) rfl (List.mem_cons_of_mem _ (gw_mem 77 (by decide +kernel))) (List.mem_cons_of_mem _ (gw_mem 284 (by decide +kernel))) (List.mem_cons_of_mem _ (gw_mem 285 (by decide +kernel))) (by decide +kernel) ⟨Nat.le_trans (by decide) hR1.1, Nat.le_trans (by decide) hR1.2⟩ (kd9_type_ok (1, .invokestatic 42, 3) (List.mem_of_getElem? (i := 1) rfl))) (am_allc (am_ck_V (n := 1) X hEs hE.1 (km6_put hE) (hg_good (gw_mem 290 (by decide +kernel))) rfl (List.mem_cons_of_mem _ (gw_mem 69 (by decide +kernel))) (List.mem_cons_of_mem _ (gw_mem 287 (by decide +kernel))) (List.mem_cons_of_mem _ (gw_mem 288 (by decide +kernel))) (List.mem_cons_of_mem _ (gw_mem 289 (by decide +kernel))) pa6_put (by decide +kernel) ⟨Nat.le_trans (by decide) hR1.1, Nat.le_trans (by decide) hR1.2⟩ (kd9_type_ok (12, .invokevirtual 48, 3) (List.mem_of_getElem? (i := 6) rfl))) (am_all0))
    exact hz _ (am_as_mem hq)
noncomputable def ki9_wipe : List (Nat × Option (List Nat) × Nat × (List am_V → List am_C → Prop) × am_M) := [(4, some [1, 2], 1, pr6_empty, fm6_empty)]
noncomputable def kb9_wipe : am_B := (kd9_wipe, am_as kf9, hn_ty, fun _ => none, fun _ => none, am_as ki9_wipe, fun _ => none, 5, 1, (some .int))
noncomputable def fn9_wipe (r : qt6) (t : qt6) (m : qt2) (y : qt0) (x : qt5) (c : qt1) (u : qt6) : Int32 × qt6 := Classical.choose (⟨_, rfl⟩ : ∃ z : Int32 × qt6, z = ((fn6_empty 40 r).1, (fn6_empty 40 r).2))
theorem fq9_wipe (r : qt6) (t : qt6) (m : qt2) (y : qt0) (x : qt5) (c : qt1) (u : qt6) : fn9_wipe r t m y x c u = ((fn6_empty 40 r).1, (fn6_empty 40 r).2) := Classical.choose_spec (⟨_, rfl⟩ : ∃ z : Int32 × qt6, z = ((fn6_empty 40 r).1, (fn6_empty 40 r).2))
def wp9_wipe (r : qt6) (t : qt6) (m : qt2) (y : qt0) (x : qt5) (c : qt1) (u : qt6) : Prop := (wp6_empty 40 r)
set_option maxRecDepth 100000 in
set_option maxHeartbeats 4000000 in
theorem re9_wipe (r : qt6) (t : qt6) (m : qt2) (y : qt0) (x : qt5) (c : qt1) (u : qt6) (hp : wp9_wipe r t m y x c u) : am_lf (am_mk kb9_wipe 0 0 27) [] (0, am_L0 [.inr (.inl 0)] 1, [], (kw_H r t m y x c u), 0, 0) = some (some (.inl ((fn9_wipe r t m y x c u).1)), (kw_H ((fn9_wipe r t m y x c u).2) t m y x c u)) := by
  unfold wp9_wipe at hp
  refine am_lf_eq ?_
  generalize am_lf (am_mk kb9_wipe 0 0 27) [] = kt
  refine am_cy (pre := pr6_empty) (f := fm6_empty) (r := (some (.inl ((fn6_empty 40 r).1)), (kw_T 40 ((fn6_empty 40 r).2)), 0, 0)) ?_ ?_ ?_
  · exact ⟨40, r, rfl, rfl, hp⟩
  · exact fe6_empty 40 r
  refine am_sp (w' := (kw_H ((fn6_empty 40 r).2) t m y x c u)) rfl ?_
  have e : fn9_wipe r t m y x c u = ((fn6_empty 40 r).1, (fn6_empty 40 r).2) := by
    rw [fq9_wipe]
  rw [e] <;> rfl
abbrev pr9_wipe : List am_V → List am_C → Prop := fun a w => ∃ (r : qt6) (t : qt6) (m : qt2) (y : qt0) (x : qt5) (c : qt1) (u : qt6), a = [.inr (.inl 0)] ∧ w = (kw_H r t m y x c u) ∧ wp9_wipe r t m y x c u
noncomputable def fm9_wipe : am_M := fun a w => (fun (z : Int32 × qt6) => (some (.inl (z.1)), (kw_H (z.2) (qs6 w 3) (qs2 w 5) (qs0 w 10) (qs5 w 15) (qs1 w 23) (qs6 w 25)), 0, 0)) (fn9_wipe (qs6 w 1) (qs6 w 3) (qs2 w 5) (qs0 w 10) (qs5 w 15) (qs1 w 23) (qs6 w 25))
theorem fe9_wipe (r : qt6) (t : qt6) (m : qt2) (y : qt0) (x : qt5) (c : qt1) (u : qt6) : fm9_wipe [.inr (.inl 0)] (kw_H r t m y x c u) = (some (.inl ((fn9_wipe r t m y x c u).1)), (kw_H ((fn9_wipe r t m y x c u).2) t m y x c u), 0, 0) := rfl
set_option maxRecDepth 100000 in
set_option maxHeartbeats 4000000 in
theorem rn9_wipe : ∀ (a : List am_V) (w : List am_C), pr9_wipe a w → ∃ n, am_ev (am_mk kb9_wipe (fm9_wipe a w).2.2.1 (fm9_wipe a w).2.2.2 w.length) [] n (0, am_L0 a 1, [], w, 0, 0) = some ((fm9_wipe a w).1, (fm9_wipe a w).2.1) := by
  rintro a w ⟨r, t, m, y, x, c, u, rfl, rfl, hp⟩
  rw [fe9_wipe r t m y x c u]
  exact am_lf_ev (re9_wipe r t m y x c u hp)
theorem rl9_wipe : ∀ (a : List am_V) (w : List am_C), pr9_wipe a w → a.length ≤ 1 := by
  rintro a w ⟨r, t, m, y, x, c, u, rfl, rfl, hp⟩
  exact Nat.le_of_ble_eq_true rfl
theorem pa9_wipe : ∀ a w, pr9_wipe a w → ∃ q a' ci fs r, a = .inr (.inl q) :: a' ∧ w[q]? = some (.inr (ci, fs)) ∧ hn_cl[ci]? = some r ∧ r.1 = hn_R9 := by
  rintro a w ⟨r, t, m, y, x, c, u, rfl, rfl, hp⟩
  exact ⟨0, _, 9, _, _, rfl, rfl, rfl, rfl⟩
set_option maxRecDepth 100000 in
set_option maxHeartbeats 4000000 in
theorem km9_wipe {l : Launch} {E : (Nat → Prop) → State → Prop} {D : va_G} {ou : Nat → Nat} {ca : Nat → ClassId} (hE : hg_E E ou) : hg_Met l E D ou ca hy9_wipe prog_1_method_3_code 1 (some .int) 1 pr9_wipe fm9_wipe := by
  refine am_met (B := kb9_wipe) (cuts := []) (nt := 5) (by decide +kernel) rfl rfl (hg_tys_ok ca) ?_ (by decide) rl9_wipe ?_ rn9_wipe
  · exact fun t ht => List.mem_cons_of_mem _ (hg_arr t ht)
  · intro a w hp ad p e R s m args below meth c hR X hEs hnm
    have hR1 : 1 ≤ R.frames ∧ 40 ≤ R.locals := by rw [hR]; exact ⟨Nat.le_refl _, Nat.le_refl _⟩
    have hN := hE.2.1 _ _ hEs
    refine ⟨kd9_wipe_ok, fun index ci fi mode hq => kf9_ok X.2.2.2.2.1 hN.1 (index, ci, fi, mode) (am_as_mem hq), fun index ci fs hq => (am_no hq).elim, fun x v hq => (am_no hq).elim, ?_, fun o t n f hq => (am_no hq).elim, rfl, rfl, by rw [hR]; exact Nat.le_refl _, by rw [hR]; exact Nat.le_refl _⟩
    intro pc sel n0 pre0 f0 hq
    have hz : ∀ q ∈ ki9_wipe, am_CK p l e R s m args below meth c D hn_cl (va_A (am_w ad ou ca w) s.heap.size) ou ca 1 q.1 q.2.2.1 q.2.2.2.1 q.2.2.2.2 := by
      refine am_allc (am_ck_V (n := 0) X hEs hE.1 (km6_empty hE) (hg_good (gw_mem 298 (by decide +kernel))) rfl (List.mem_cons_of_mem _ (gw_mem 69 (by decide +kernel))) (List.mem_cons_of_mem _ (gw_mem 295 (by decide +kernel))) (List.mem_cons_of_mem _ (gw_mem 296 (by decide +kernel))) (List.mem_cons_of_mem _ (gw_mem 297 (by decide +kernel))) pa6_empty (by decide +kernel) ⟨Nat.le_trans (by decide) hR1.1, Nat.le_trans (by decide) hR1.2⟩ (kd9_wipe_ok (4, .invokevirtual 51, 3) (List.mem_of_getElem? (i := 2) rfl))) (am_all0)
    exact hz _ (am_as_mem hq)
noncomputable def ki9_clear : List (Nat × Option (List Nat) × Nat × (List am_V → List am_C → Prop) × am_M) := [(12, some [3, 4], 1, pr6_empty, fm6_empty)]
noncomputable def kb9_clear : am_B := (kd9_clear, am_as kf9, hn_ty, fun _ => none, fun _ => none, am_as ki9_clear, fun _ => none, 5, 1, (some .int))
noncomputable def fn9_clear (r : qt6) (t : qt6) (m : qt2) (y : qt0) (x : qt5) (c : qt1) (u : qt6) : Int32 × qt6 × qt0 := Classical.choose (⟨_, rfl⟩ : ∃ z : Int32 × qt6 × qt0, z = ((fn6_empty 240 t).1, (fn6_empty 240 t).2, (qu0_compiled y (0 : Int32))))
theorem fq9_clear (r : qt6) (t : qt6) (m : qt2) (y : qt0) (x : qt5) (c : qt1) (u : qt6) : fn9_clear r t m y x c u = ((fn6_empty 240 t).1, (fn6_empty 240 t).2, (qu0_compiled y (0 : Int32))) := Classical.choose_spec (⟨_, rfl⟩ : ∃ z : Int32 × qt6 × qt0, z = ((fn6_empty 240 t).1, (fn6_empty 240 t).2, (qu0_compiled y (0 : Int32))))
def wp9_clear (r : qt6) (t : qt6) (m : qt2) (y : qt0) (x : qt5) (c : qt1) (u : qt6) : Prop := (wp6_empty 240 t)
set_option maxRecDepth 100000 in
set_option maxHeartbeats 4000000 in
theorem re9_clear (r : qt6) (t : qt6) (m : qt2) (y : qt0) (x : qt5) (c : qt1) (u : qt6) (hp : wp9_clear r t m y x c u) : am_lf (am_mk kb9_clear 0 0 27) [] (0, am_L0 [.inr (.inl 0)] 1, [], (kw_H r t m y x c u), 0, 0) = some (some (.inl ((fn9_clear r t m y x c u).1)), (kw_H r ((fn9_clear r t m y x c u).2.1) m ((fn9_clear r t m y x c u).2.2) x c u)) := by
  unfold wp9_clear at hp
  refine am_lf_eq ?_
  generalize am_lf (am_mk kb9_clear 0 0 27) [] = kt
  refine am_sp (w' := (kw_H r t m (qu0_compiled y (0 : Int32)) x c u)) (kp_H_4_compiled r t m y x c u (0 : Int32)) ?_
  refine am_cy (pre := pr6_empty) (f := fm6_empty) (r := (some (.inl ((fn6_empty 240 t).1)), (kw_T 240 ((fn6_empty 240 t).2)), 0, 0)) ?_ ?_ ?_
  · exact ⟨240, t, rfl, rfl, hp⟩
  · exact fe6_empty 240 t
  refine am_sp (w' := (kw_H r ((fn6_empty 240 t).2) m (qu0_compiled y (0 : Int32)) x c u)) rfl ?_
  have e : fn9_clear r t m y x c u = ((fn6_empty 240 t).1, (fn6_empty 240 t).2, (qu0_compiled y (0 : Int32))) := by
    rw [fq9_clear]
  rw [e] <;> rfl
abbrev pr9_clear : List am_V → List am_C → Prop := fun a w => ∃ (r : qt6) (t : qt6) (m : qt2) (y : qt0) (x : qt5) (c : qt1) (u : qt6), a = [.inr (.inl 0)] ∧ w = (kw_H r t m y x c u) ∧ wp9_clear r t m y x c u
noncomputable def fm9_clear : am_M := fun a w => (fun (z : Int32 × qt6 × qt0) => (some (.inl (z.1)), (kw_H (qs6 w 1) (z.2.1) (qs2 w 5) (z.2.2) (qs5 w 15) (qs1 w 23) (qs6 w 25)), 0, 0)) (fn9_clear (qs6 w 1) (qs6 w 3) (qs2 w 5) (qs0 w 10) (qs5 w 15) (qs1 w 23) (qs6 w 25))
theorem fe9_clear (r : qt6) (t : qt6) (m : qt2) (y : qt0) (x : qt5) (c : qt1) (u : qt6) : fm9_clear [.inr (.inl 0)] (kw_H r t m y x c u) = (some (.inl ((fn9_clear r t m y x c u).1)), (kw_H r ((fn9_clear r t m y x c u).2.1) m ((fn9_clear r t m y x c u).2.2) x c u), 0, 0) := rfl
set_option maxRecDepth 100000 in
set_option maxHeartbeats 4000000 in
theorem rn9_clear : ∀ (a : List am_V) (w : List am_C), pr9_clear a w → ∃ n, am_ev (am_mk kb9_clear (fm9_clear a w).2.2.1 (fm9_clear a w).2.2.2 w.length) [] n (0, am_L0 a 1, [], w, 0, 0) = some ((fm9_clear a w).1, (fm9_clear a w).2.1) := by
  rintro a w ⟨r, t, m, y, x, c, u, rfl, rfl, hp⟩
  rw [fe9_clear r t m y x c u]
  exact am_lf_ev (re9_clear r t m y x c u hp)
theorem rl9_clear : ∀ (a : List am_V) (w : List am_C), pr9_clear a w → a.length ≤ 1 := by
  rintro a w ⟨r, t, m, y, x, c, u, rfl, rfl, hp⟩
  exact Nat.le_of_ble_eq_true rfl
theorem pa9_clear : ∀ a w, pr9_clear a w → ∃ q a' ci fs r, a = .inr (.inl q) :: a' ∧ w[q]? = some (.inr (ci, fs)) ∧ hn_cl[ci]? = some r ∧ r.1 = hn_R9 := by
  rintro a w ⟨r, t, m, y, x, c, u, rfl, rfl, hp⟩
  exact ⟨0, _, 9, _, _, rfl, rfl, rfl, rfl⟩
set_option maxRecDepth 100000 in
set_option maxHeartbeats 4000000 in
theorem km9_clear {l : Launch} {E : (Nat → Prop) → State → Prop} {D : va_G} {ou : Nat → Nat} {ca : Nat → ClassId} (hE : hg_E E ou) : hg_Met l E D ou ca hy9_clear prog_1_method_5_code 1 (some .int) 1 pr9_clear fm9_clear := by
  refine am_met (B := kb9_clear) (cuts := []) (nt := 5) (by decide +kernel) rfl rfl (hg_tys_ok ca) ?_ (by decide) rl9_clear ?_ rn9_clear
  · exact fun t ht => List.mem_cons_of_mem _ (hg_arr t ht)
  · intro a w hp ad p e R s m args below meth c hR X hEs hnm
    have hR1 : 1 ≤ R.frames ∧ 40 ≤ R.locals := by rw [hR]; exact ⟨Nat.le_refl _, Nat.le_refl _⟩
    have hN := hE.2.1 _ _ hEs
    refine ⟨kd9_clear_ok, fun index ci fi mode hq => kf9_ok X.2.2.2.2.1 hN.1 (index, ci, fi, mode) (am_as_mem hq), fun index ci fs hq => (am_no hq).elim, fun x v hq => (am_no hq).elim, ?_, fun o t n f hq => (am_no hq).elim, rfl, rfl, by rw [hR]; exact Nat.le_refl _, by rw [hR]; exact Nat.le_refl _⟩
    intro pc sel n0 pre0 f0 hq
    have hz : ∀ q ∈ ki9_clear, am_CK p l e R s m args below meth c D hn_cl (va_A (am_w ad ou ca w) s.heap.size) ou ca 1 q.1 q.2.2.1 q.2.2.2.1 q.2.2.2.2 := by
      refine am_allc (am_ck_V (n := 0) X hEs hE.1 (km6_empty hE) (hg_good (gw_mem 298 (by decide +kernel))) rfl (List.mem_cons_of_mem _ (gw_mem 69 (by decide +kernel))) (List.mem_cons_of_mem _ (gw_mem 295 (by decide +kernel))) (List.mem_cons_of_mem _ (gw_mem 296 (by decide +kernel))) (List.mem_cons_of_mem _ (gw_mem 297 (by decide +kernel))) pa6_empty (by decide +kernel) ⟨Nat.le_trans (by decide) hR1.1, Nat.le_trans (by decide) hR1.2⟩ (kd9_clear_ok (12, .invokevirtual 51, 3) (List.mem_of_getElem? (i := 6) rfl))) (am_all0)
    exact hz _ (am_as_mem hq)
noncomputable def ki9_accepts : List (Nat × Option (List Nat) × Nat × (List am_V → List am_C → Prop) × am_M) := [(8, some [10, 11, 12, 13, 14, 15, 16, 17, 18, 19, 20, 21, 22, 23, 3, 4], 2, pr0_reads, fm0_reads)]
noncomputable def kb9_accepts : am_B := (kd9_accepts, am_as kf9, hn_ty, fun _ => none, fun _ => none, am_as ki9_accepts, fun _ => none, 5, 1, (some .boolean))
noncomputable def fn9_accepts (r : qt6) (t : qt6) (m : qt2) (y : qt0) (x : qt5) (c : qt1) (u : qt6) : Int32 × qt0 × qt5 × qt1 := Classical.choose (⟨_, rfl⟩ : ∃ z : Int32 × qt0 × qt5 × qt1, z = ((fn0_reads y x c t).1, (fn0_reads y x c t).2.1, (fn0_reads y x c t).2.2.1, (fn0_reads y x c t).2.2.2))
theorem fq9_accepts (r : qt6) (t : qt6) (m : qt2) (y : qt0) (x : qt5) (c : qt1) (u : qt6) : fn9_accepts r t m y x c u = ((fn0_reads y x c t).1, (fn0_reads y x c t).2.1, (fn0_reads y x c t).2.2.1, (fn0_reads y x c t).2.2.2) := Classical.choose_spec (⟨_, rfl⟩ : ∃ z : Int32 × qt0 × qt5 × qt1, z = ((fn0_reads y x c t).1, (fn0_reads y x c t).2.1, (fn0_reads y x c t).2.2.1, (fn0_reads y x c t).2.2.2))
def wp9_accepts (r : qt6) (t : qt6) (m : qt2) (y : qt0) (x : qt5) (c : qt1) (u : qt6) : Prop := ((wp0_reads y x c t) ∧ (am_fit .boolean (.inl (fn0_reads y x c t).1) = true))
set_option maxRecDepth 100000 in
set_option maxHeartbeats 4000000 in
theorem re9_accepts (r : qt6) (t : qt6) (m : qt2) (y : qt0) (x : qt5) (c : qt1) (u : qt6) (hp : wp9_accepts r t m y x c u) : am_lf (am_mk kb9_accepts 0 0 27) [] (0, am_L0 [.inr (.inl 0)] 1, [], (kw_H r t m y x c u), 0, 0) = some (some (.inl ((fn9_accepts r t m y x c u).1)), (kw_H r t m ((fn9_accepts r t m y x c u).2.1) ((fn9_accepts r t m y x c u).2.2.1) ((fn9_accepts r t m y x c u).2.2.2) u)) := by
  unfold wp9_accepts at hp
  refine am_lf_eq ?_
  generalize am_lf (am_mk kb9_accepts 0 0 27) [] = kt
  refine am_cy (pre := pr0_reads) (f := fm0_reads) (r := (some (.inl ((fn0_reads y x c t).1)), (kw_PT ((fn0_reads y x c t).2.1) ((fn0_reads y x c t).2.2.1) ((fn0_reads y x c t).2.2.2) t), 0, 0)) ?_ ?_ ?_
  · exact ⟨y, x, c, t, rfl, rfl, hp.1⟩
  · exact fe0_reads y x c t
  refine am_sp (w' := (kw_H r t m ((fn0_reads y x c t).2.1) ((fn0_reads y x c t).2.2.1) ((fn0_reads y x c t).2.2.2) u)) rfl ?_
  refine am_ci (c := am_fit .boolean (.inl (fn0_reads y x c t).1) = true) hp.2 ?_
  have e : fn9_accepts r t m y x c u = ((fn0_reads y x c t).1, (fn0_reads y x c t).2.1, (fn0_reads y x c t).2.2.1, (fn0_reads y x c t).2.2.2) := by
    rw [fq9_accepts]
  rw [e] <;> rfl
abbrev pr9_accepts : List am_V → List am_C → Prop := fun a w => ∃ (r : qt6) (t : qt6) (m : qt2) (y : qt0) (x : qt5) (c : qt1) (u : qt6), a = [.inr (.inl 0)] ∧ w = (kw_H r t m y x c u) ∧ wp9_accepts r t m y x c u
noncomputable def fm9_accepts : am_M := fun a w => (fun (z : Int32 × qt0 × qt5 × qt1) => (some (.inl (z.1)), (kw_H (qs6 w 1) (qs6 w 3) (qs2 w 5) (z.2.1) (z.2.2.1) (z.2.2.2) (qs6 w 25)), 0, 0)) (fn9_accepts (qs6 w 1) (qs6 w 3) (qs2 w 5) (qs0 w 10) (qs5 w 15) (qs1 w 23) (qs6 w 25))
theorem fe9_accepts (r : qt6) (t : qt6) (m : qt2) (y : qt0) (x : qt5) (c : qt1) (u : qt6) : fm9_accepts [.inr (.inl 0)] (kw_H r t m y x c u) = (some (.inl ((fn9_accepts r t m y x c u).1)), (kw_H r t m ((fn9_accepts r t m y x c u).2.1) ((fn9_accepts r t m y x c u).2.2.1) ((fn9_accepts r t m y x c u).2.2.2) u), 0, 0) := rfl
set_option maxRecDepth 100000 in
set_option maxHeartbeats 4000000 in
theorem rn9_accepts : ∀ (a : List am_V) (w : List am_C), pr9_accepts a w → ∃ n, am_ev (am_mk kb9_accepts (fm9_accepts a w).2.2.1 (fm9_accepts a w).2.2.2 w.length) [] n (0, am_L0 a 1, [], w, 0, 0) = some ((fm9_accepts a w).1, (fm9_accepts a w).2.1) := by
  rintro a w ⟨r, t, m, y, x, c, u, rfl, rfl, hp⟩
  rw [fe9_accepts r t m y x c u]
  exact am_lf_ev (re9_accepts r t m y x c u hp)
theorem rl9_accepts : ∀ (a : List am_V) (w : List am_C), pr9_accepts a w → a.length ≤ 1 := by
  rintro a w ⟨r, t, m, y, x, c, u, rfl, rfl, hp⟩
  exact Nat.le_of_ble_eq_true rfl
theorem pa9_accepts : ∀ a w, pr9_accepts a w → ∃ q a' ci fs r, a = .inr (.inl q) :: a' ∧ w[q]? = some (.inr (ci, fs)) ∧ hn_cl[ci]? = some r ∧ r.1 = hn_R9 := by
  rintro a w ⟨r, t, m, y, x, c, u, rfl, rfl, hp⟩
  exact ⟨0, _, 9, _, _, rfl, rfl, rfl, rfl⟩
set_option maxRecDepth 100000 in
set_option maxHeartbeats 4000000 in
theorem km9_accepts {l : Launch} {E : (Nat → Prop) → State → Prop} {D : va_G} {ou : Nat → Nat} {ca : Nat → ClassId} (hE : hg_E E ou) : hg_Met l E D ou ca hy9_accepts prog_1_method_7_code 1 (some .boolean) 10 pr9_accepts fm9_accepts := by
  refine am_met (B := kb9_accepts) (cuts := []) (nt := 5) (by decide +kernel) rfl rfl (hg_tys_ok ca) ?_ (by decide) rl9_accepts ?_ rn9_accepts
  · exact fun t ht => List.mem_cons_of_mem _ (hg_arr t ht)
  · intro a w hp ad p e R s m args below meth c hR X hEs hnm
    have hR1 : 10 ≤ R.frames ∧ 400 ≤ R.locals := by rw [hR]; exact ⟨Nat.le_refl _, Nat.le_refl _⟩
    have hN := hE.2.1 _ _ hEs
    refine ⟨kd9_accepts_ok, fun index ci fi mode hq => kf9_ok X.2.2.2.2.1 hN.1 (index, ci, fi, mode) (am_as_mem hq), fun index ci fs hq => (am_no hq).elim, fun x v hq => (am_no hq).elim, ?_, fun o t n f hq => (am_no hq).elim, rfl, rfl, by rw [hR]; exact Nat.le_refl _, by rw [hR]; exact Nat.le_refl _⟩
    intro pc sel n0 pre0 f0 hq
    have hz : ∀ q ∈ ki9_accepts, am_CK p l e R s m args below meth c D hn_cl (va_A (am_w ad ou ca w) s.heap.size) ou ca 1 q.1 q.2.2.1 q.2.2.2.1 q.2.2.2.2 := by
      refine am_allc (am_ck_V (n := 1) X hEs hE.1 (km0_reads hE) (hg_good (gw_mem 310 (by decide +kernel))) rfl (List.mem_cons_of_mem _ (gw_mem 72 (by decide +kernel))) (List.mem_cons_of_mem _ (gw_mem 307 (by decide +kernel))) (List.mem_cons_of_mem _ (gw_mem 308 (by decide +kernel))) (List.mem_cons_of_mem _ (gw_mem 309 (by decide +kernel))) pa0_reads (by decide +kernel) ⟨Nat.le_trans (by decide) hR1.1, Nat.le_trans (by decide) hR1.2⟩ (kd9_accepts_ok (8, .invokevirtual 74, 3) (List.mem_of_getElem? (i := 4) rfl))) (am_all0)
    exact hz _ (am_as_mem hq)
noncomputable def ki9_fault : List (Nat × Option (List Nat) × Nat × (List am_V → List am_C → Prop) × am_M) := []
noncomputable def kb9_fault : am_B := (kd9_fault, am_as kf9, hn_ty, fun _ => none, fun _ => none, am_as ki9_fault, fun _ => none, 5, 1, (some .int))
noncomputable def fn9_fault (r : qt6) (t : qt6) (m : qt2) (y : qt0) (x : qt5) (c : qt1) (u : qt6) : Int32 := Classical.choose (⟨_, rfl⟩ : ∃ z : Int32, z = (qg0_faultPlace y))
theorem fq9_fault (r : qt6) (t : qt6) (m : qt2) (y : qt0) (x : qt5) (c : qt1) (u : qt6) : fn9_fault r t m y x c u = (qg0_faultPlace y) := Classical.choose_spec (⟨_, rfl⟩ : ∃ z : Int32, z = (qg0_faultPlace y))
def wp9_fault (r : qt6) (t : qt6) (m : qt2) (y : qt0) (x : qt5) (c : qt1) (u : qt6) : Prop := True
set_option maxRecDepth 100000 in
set_option maxHeartbeats 4000000 in
theorem re9_fault (r : qt6) (t : qt6) (m : qt2) (y : qt0) (x : qt5) (c : qt1) (u : qt6) (hp : wp9_fault r t m y x c u) : am_lf (am_mk kb9_fault 0 0 27) [] (0, am_L0 [.inr (.inl 0)] 1, [], (kw_H r t m y x c u), 0, 0) = some (some (.inl (fn9_fault r t m y x c u)), (kw_H r t m y x c u)) := by
  unfold wp9_fault at hp
  refine am_lf_eq ?_
  generalize am_lf (am_mk kb9_fault 0 0 27) [] = kt
  have e : fn9_fault r t m y x c u = (qg0_faultPlace y) := by
    rw [fq9_fault]
  rw [e] <;> rfl
abbrev pr9_fault : List am_V → List am_C → Prop := fun a w => ∃ (r : qt6) (t : qt6) (m : qt2) (y : qt0) (x : qt5) (c : qt1) (u : qt6), a = [.inr (.inl 0)] ∧ w = (kw_H r t m y x c u) ∧ wp9_fault r t m y x c u
noncomputable def fm9_fault : am_M := fun a w => (fun (z : Int32) => (some (.inl z), (kw_H (qs6 w 1) (qs6 w 3) (qs2 w 5) (qs0 w 10) (qs5 w 15) (qs1 w 23) (qs6 w 25)), 0, 0)) (fn9_fault (qs6 w 1) (qs6 w 3) (qs2 w 5) (qs0 w 10) (qs5 w 15) (qs1 w 23) (qs6 w 25))
theorem fe9_fault (r : qt6) (t : qt6) (m : qt2) (y : qt0) (x : qt5) (c : qt1) (u : qt6) : fm9_fault [.inr (.inl 0)] (kw_H r t m y x c u) = (some (.inl (fn9_fault r t m y x c u)), (kw_H r t m y x c u), 0, 0) := rfl
set_option maxRecDepth 100000 in
set_option maxHeartbeats 4000000 in
theorem rn9_fault : ∀ (a : List am_V) (w : List am_C), pr9_fault a w → ∃ n, am_ev (am_mk kb9_fault (fm9_fault a w).2.2.1 (fm9_fault a w).2.2.2 w.length) [] n (0, am_L0 a 1, [], w, 0, 0) = some ((fm9_fault a w).1, (fm9_fault a w).2.1) := by
  rintro a w ⟨r, t, m, y, x, c, u, rfl, rfl, hp⟩
  rw [fe9_fault r t m y x c u]
  exact am_lf_ev (re9_fault r t m y x c u hp)
theorem rl9_fault : ∀ (a : List am_V) (w : List am_C), pr9_fault a w → a.length ≤ 1 := by
  rintro a w ⟨r, t, m, y, x, c, u, rfl, rfl, hp⟩
  exact Nat.le_of_ble_eq_true rfl
theorem pa9_fault : ∀ a w, pr9_fault a w → ∃ q a' ci fs r, a = .inr (.inl q) :: a' ∧ w[q]? = some (.inr (ci, fs)) ∧ hn_cl[ci]? = some r ∧ r.1 = hn_R9 := by
  rintro a w ⟨r, t, m, y, x, c, u, rfl, rfl, hp⟩
  exact ⟨0, _, 9, _, _, rfl, rfl, rfl, rfl⟩
set_option maxRecDepth 100000 in
set_option maxHeartbeats 4000000 in
theorem km9_fault {l : Launch} {E : (Nat → Prop) → State → Prop} {D : va_G} {ou : Nat → Nat} {ca : Nat → ClassId} (hE : hg_E E ou) : hg_Met l E D ou ca hy9_fault prog_1_method_8_code 1 (some .int) 0 pr9_fault fm9_fault := by
  refine am_met (B := kb9_fault) (cuts := []) (nt := 5) (by decide +kernel) rfl rfl (hg_tys_ok ca) ?_ (by decide) rl9_fault ?_ rn9_fault
  · exact fun t ht => List.mem_cons_of_mem _ (hg_arr t ht)
  · intro a w hp ad p e R s m args below meth c hR X hEs hnm
    have hR1 : 0 ≤ R.frames ∧ 0 ≤ R.locals := by rw [hR]; exact ⟨Nat.le_refl _, Nat.le_refl _⟩
    have hN := hE.2.1 _ _ hEs
    refine ⟨kd9_fault_ok, fun index ci fi mode hq => kf9_ok X.2.2.2.2.1 hN.1 (index, ci, fi, mode) (am_as_mem hq), fun index ci fs hq => (am_no hq).elim, fun x v hq => (am_no hq).elim, ?_, fun o t n f hq => (am_no hq).elim, rfl, rfl, by rw [hR]; exact Nat.le_refl _, by rw [hR]; exact Nat.le_refl _⟩
    intro pc sel n0 pre0 f0 hq
    exact (am_no hq).elim
noncomputable def ki9_hole : List (Nat × Option (List Nat) × Nat × (List am_V → List am_C → Prop) × am_M) := [(5, some [10, 11, 12, 13, 14, 15, 16, 17, 18, 19, 20, 21, 22, 23], 2, pr0_holeCode, fm0_holeCode)]
noncomputable def kb9_hole : am_B := (kd9_hole, am_as kf9, hn_ty, fun _ => none, fun _ => none, am_as ki9_hole, fun _ => none, 5, 2, (some .int))
noncomputable def fn9_hole (r : qt6) (t : qt6) (m : qt2) (y : qt0) (x : qt5) (c : qt1) (u : qt6) (p0 : Int32) : Int32 := Classical.choose (⟨_, rfl⟩ : ∃ z : Int32, z = (fn0_holeCode y x c p0))
theorem fq9_hole (r : qt6) (t : qt6) (m : qt2) (y : qt0) (x : qt5) (c : qt1) (u : qt6) (p0 : Int32) : fn9_hole r t m y x c u p0 = (fn0_holeCode y x c p0) := Classical.choose_spec (⟨_, rfl⟩ : ∃ z : Int32, z = (fn0_holeCode y x c p0))
def wp9_hole (r : qt6) (t : qt6) (m : qt2) (y : qt0) (x : qt5) (c : qt1) (u : qt6) (p0 : Int32) : Prop := (wp0_holeCode y x c p0)
set_option maxRecDepth 100000 in
set_option maxHeartbeats 4000000 in
theorem re9_hole (r : qt6) (t : qt6) (m : qt2) (y : qt0) (x : qt5) (c : qt1) (u : qt6) (p0 : Int32) (hp : wp9_hole r t m y x c u p0) : am_lf (am_mk kb9_hole 0 0 27) [] (0, am_L0 [.inr (.inl 0), .inl p0] 2, [], (kw_H r t m y x c u), 0, 0) = some (some (.inl (fn9_hole r t m y x c u p0)), (kw_H r t m y x c u)) := by
  unfold wp9_hole at hp
  refine am_lf_eq ?_
  generalize am_lf (am_mk kb9_hole 0 0 27) [] = kt
  refine am_cy (pre := pr0_holeCode) (f := fm0_holeCode) (r := (some (.inl (fn0_holeCode y x c p0)), (kw_P y x c), 0, 0)) ?_ ?_ ?_
  · exact ⟨y, x, c, p0, rfl, rfl, hp⟩
  · exact fe0_holeCode y x c p0
  refine am_sp (w' := (kw_H r t m y x c u)) rfl ?_
  have e : fn9_hole r t m y x c u p0 = (fn0_holeCode y x c p0) := by
    rw [fq9_hole]
  rw [e] <;> rfl
abbrev pr9_hole : List am_V → List am_C → Prop := fun a w => ∃ (r : qt6) (t : qt6) (m : qt2) (y : qt0) (x : qt5) (c : qt1) (u : qt6) (p0 : Int32), a = [.inr (.inl 0), .inl p0] ∧ w = (kw_H r t m y x c u) ∧ wp9_hole r t m y x c u p0
noncomputable def fm9_hole : am_M := fun a w => (fun (z : Int32) => (some (.inl z), (kw_H (qs6 w 1) (qs6 w 3) (qs2 w 5) (qs0 w 10) (qs5 w 15) (qs1 w 23) (qs6 w 25)), 0, 0)) (fn9_hole (qs6 w 1) (qs6 w 3) (qs2 w 5) (qs0 w 10) (qs5 w 15) (qs1 w 23) (qs6 w 25) (am_i (am_an a 1)))
theorem fe9_hole (r : qt6) (t : qt6) (m : qt2) (y : qt0) (x : qt5) (c : qt1) (u : qt6) (p0 : Int32) : fm9_hole [.inr (.inl 0), .inl p0] (kw_H r t m y x c u) = (some (.inl (fn9_hole r t m y x c u p0)), (kw_H r t m y x c u), 0, 0) := rfl
set_option maxRecDepth 100000 in
set_option maxHeartbeats 4000000 in
theorem rn9_hole : ∀ (a : List am_V) (w : List am_C), pr9_hole a w → ∃ n, am_ev (am_mk kb9_hole (fm9_hole a w).2.2.1 (fm9_hole a w).2.2.2 w.length) [] n (0, am_L0 a 2, [], w, 0, 0) = some ((fm9_hole a w).1, (fm9_hole a w).2.1) := by
  rintro a w ⟨r, t, m, y, x, c, u, p0, rfl, rfl, hp⟩
  rw [fe9_hole r t m y x c u p0]
  exact am_lf_ev (re9_hole r t m y x c u p0 hp)
theorem rl9_hole : ∀ (a : List am_V) (w : List am_C), pr9_hole a w → a.length ≤ 2 := by
  rintro a w ⟨r, t, m, y, x, c, u, p0, rfl, rfl, hp⟩
  exact Nat.le_of_ble_eq_true rfl
theorem pa9_hole : ∀ a w, pr9_hole a w → ∃ q a' ci fs r, a = .inr (.inl q) :: a' ∧ w[q]? = some (.inr (ci, fs)) ∧ hn_cl[ci]? = some r ∧ r.1 = hn_R9 := by
  rintro a w ⟨r, t, m, y, x, c, u, p0, rfl, rfl, hp⟩
  exact ⟨0, _, 9, _, _, rfl, rfl, rfl, rfl⟩
set_option maxRecDepth 100000 in
set_option maxHeartbeats 4000000 in
theorem km9_hole {l : Launch} {E : (Nat → Prop) → State → Prop} {D : va_G} {ou : Nat → Nat} {ca : Nat → ClassId} (hE : hg_E E ou) : hg_Met l E D ou ca hy9_hole prog_1_method_9_code 2 (some .int) 1 pr9_hole fm9_hole := by
  refine am_met (B := kb9_hole) (cuts := []) (nt := 5) (by decide +kernel) rfl rfl (hg_tys_ok ca) ?_ (by decide) rl9_hole ?_ rn9_hole
  · exact fun t ht => List.mem_cons_of_mem _ (hg_arr t ht)
  · intro a w hp ad p e R s m args below meth c hR X hEs hnm
    have hR1 : 1 ≤ R.frames ∧ 40 ≤ R.locals := by rw [hR]; exact ⟨Nat.le_refl _, Nat.le_refl _⟩
    have hN := hE.2.1 _ _ hEs
    refine ⟨kd9_hole_ok, fun index ci fi mode hq => kf9_ok X.2.2.2.2.1 hN.1 (index, ci, fi, mode) (am_as_mem hq), fun index ci fs hq => (am_no hq).elim, fun x v hq => (am_no hq).elim, ?_, fun o t n f hq => (am_no hq).elim, rfl, rfl, by rw [hR]; exact Nat.le_refl _, by rw [hR]; exact Nat.le_refl _⟩
    intro pc sel n0 pre0 f0 hq
    have hz : ∀ q ∈ ki9_hole, am_CK p l e R s m args below meth c D hn_cl (va_A (am_w ad ou ca w) s.heap.size) ou ca 2 q.1 q.2.2.1 q.2.2.2.1 q.2.2.2.2 := by
      refine am_allc (am_ck_V (n := 1) X hEs hE.1 (km0_holeCode hE) (hg_good (gw_mem 579 (by decide +kernel))) rfl (List.mem_cons_of_mem _ (gw_mem 72 (by decide +kernel))) (List.mem_cons_of_mem _ (gw_mem 576 (by decide +kernel))) (List.mem_cons_of_mem _ (gw_mem 577 (by decide +kernel))) (List.mem_cons_of_mem _ (gw_mem 578 (by decide +kernel))) pa0_holeCode (by decide +kernel) ⟨Nat.le_trans (by decide) hR1.1, Nat.le_trans (by decide) hR1.2⟩ (kd9_hole_ok (5, .invokevirtual 89, 3) (List.mem_of_getElem? (i := 3) rfl))) (am_all0)
    exact hz _ (am_as_mem hq)
noncomputable def ki9_written : List (Nat × Option (List Nat) × Nat × (List am_V → List am_C → Prop) × am_M) := []
noncomputable def kb9_written : am_B := (kd9_written, am_as kf9, hn_ty, fun _ => none, fun _ => none, am_as ki9_written, fun _ => none, 5, 1, (some .int))
noncomputable def fn9_written (r : qt6) (t : qt6) (m : qt2) (y : qt0) (x : qt5) (c : qt1) (u : qt6) : Int32 := Classical.choose (⟨_, rfl⟩ : ∃ z : Int32, z = (qg6_length u))
theorem fq9_written (r : qt6) (t : qt6) (m : qt2) (y : qt0) (x : qt5) (c : qt1) (u : qt6) : fn9_written r t m y x c u = (qg6_length u) := Classical.choose_spec (⟨_, rfl⟩ : ∃ z : Int32, z = (qg6_length u))
def wp9_written (r : qt6) (t : qt6) (m : qt2) (y : qt0) (x : qt5) (c : qt1) (u : qt6) : Prop := True
set_option maxRecDepth 100000 in
set_option maxHeartbeats 4000000 in
theorem re9_written (r : qt6) (t : qt6) (m : qt2) (y : qt0) (x : qt5) (c : qt1) (u : qt6) (hp : wp9_written r t m y x c u) : am_lf (am_mk kb9_written 0 0 27) [] (0, am_L0 [.inr (.inl 0)] 1, [], (kw_H r t m y x c u), 0, 0) = some (some (.inl (fn9_written r t m y x c u)), (kw_H r t m y x c u)) := by
  unfold wp9_written at hp
  refine am_lf_eq ?_
  generalize am_lf (am_mk kb9_written 0 0 27) [] = kt
  have e : fn9_written r t m y x c u = (qg6_length u) := by
    rw [fq9_written]
  rw [e] <;> rfl
abbrev pr9_written : List am_V → List am_C → Prop := fun a w => ∃ (r : qt6) (t : qt6) (m : qt2) (y : qt0) (x : qt5) (c : qt1) (u : qt6), a = [.inr (.inl 0)] ∧ w = (kw_H r t m y x c u) ∧ wp9_written r t m y x c u
noncomputable def fm9_written : am_M := fun a w => (fun (z : Int32) => (some (.inl z), (kw_H (qs6 w 1) (qs6 w 3) (qs2 w 5) (qs0 w 10) (qs5 w 15) (qs1 w 23) (qs6 w 25)), 0, 0)) (fn9_written (qs6 w 1) (qs6 w 3) (qs2 w 5) (qs0 w 10) (qs5 w 15) (qs1 w 23) (qs6 w 25))
theorem fe9_written (r : qt6) (t : qt6) (m : qt2) (y : qt0) (x : qt5) (c : qt1) (u : qt6) : fm9_written [.inr (.inl 0)] (kw_H r t m y x c u) = (some (.inl (fn9_written r t m y x c u)), (kw_H r t m y x c u), 0, 0) := rfl
set_option maxRecDepth 100000 in
set_option maxHeartbeats 4000000 in
theorem rn9_written : ∀ (a : List am_V) (w : List am_C), pr9_written a w → ∃ n, am_ev (am_mk kb9_written (fm9_written a w).2.2.1 (fm9_written a w).2.2.2 w.length) [] n (0, am_L0 a 1, [], w, 0, 0) = some ((fm9_written a w).1, (fm9_written a w).2.1) := by
  rintro a w ⟨r, t, m, y, x, c, u, rfl, rfl, hp⟩
  rw [fe9_written r t m y x c u]
  exact am_lf_ev (re9_written r t m y x c u hp)
theorem rl9_written : ∀ (a : List am_V) (w : List am_C), pr9_written a w → a.length ≤ 1 := by
  rintro a w ⟨r, t, m, y, x, c, u, rfl, rfl, hp⟩
  exact Nat.le_of_ble_eq_true rfl
theorem pa9_written : ∀ a w, pr9_written a w → ∃ q a' ci fs r, a = .inr (.inl q) :: a' ∧ w[q]? = some (.inr (ci, fs)) ∧ hn_cl[ci]? = some r ∧ r.1 = hn_R9 := by
  rintro a w ⟨r, t, m, y, x, c, u, rfl, rfl, hp⟩
  exact ⟨0, _, 9, _, _, rfl, rfl, rfl, rfl⟩
set_option maxRecDepth 100000 in
set_option maxHeartbeats 4000000 in
theorem km9_written {l : Launch} {E : (Nat → Prop) → State → Prop} {D : va_G} {ou : Nat → Nat} {ca : Nat → ClassId} (hE : hg_E E ou) : hg_Met l E D ou ca hy9_written prog_1_method_13_code 1 (some .int) 0 pr9_written fm9_written := by
  refine am_met (B := kb9_written) (cuts := []) (nt := 5) (by decide +kernel) rfl rfl (hg_tys_ok ca) ?_ (by decide) rl9_written ?_ rn9_written
  · exact fun t ht => List.mem_cons_of_mem _ (hg_arr t ht)
  · intro a w hp ad p e R s m args below meth c hR X hEs hnm
    have hR1 : 0 ≤ R.frames ∧ 0 ≤ R.locals := by rw [hR]; exact ⟨Nat.le_refl _, Nat.le_refl _⟩
    have hN := hE.2.1 _ _ hEs
    refine ⟨kd9_written_ok, fun index ci fi mode hq => kf9_ok X.2.2.2.2.1 hN.1 (index, ci, fi, mode) (am_as_mem hq), fun index ci fs hq => (am_no hq).elim, fun x v hq => (am_no hq).elim, ?_, fun o t n f hq => (am_no hq).elim, rfl, rfl, by rw [hR]; exact Nat.le_refl _, by rw [hR]; exact Nat.le_refl _⟩
    intro pc sel n0 pre0 f0 hq
    exact (am_no hq).elim
noncomputable def ki9_letter : List (Nat × Option (List Nat) × Nat × (List am_V → List am_C → Prop) × am_M) := [(8, some [25, 26], 2, pr6_at, fm6_at)]
noncomputable def kb9_letter : am_B := (kd9_letter, am_as kf9, hn_ty, fun _ => none, fun _ => none, am_as ki9_letter, fun _ => none, 5, 2, (some .char))
noncomputable def fn9_letter (r : qt6) (t : qt6) (m : qt2) (y : qt0) (x : qt5) (c : qt1) (u : qt6) (p0 : Int32) : Int32 := Classical.choose (⟨_, rfl⟩ : ∃ z : Int32, z = (fn6_at 1000 u p0))
theorem fq9_letter (r : qt6) (t : qt6) (m : qt2) (y : qt0) (x : qt5) (c : qt1) (u : qt6) (p0 : Int32) : fn9_letter r t m y x c u p0 = (fn6_at 1000 u p0) := Classical.choose_spec (⟨_, rfl⟩ : ∃ z : Int32, z = (fn6_at 1000 u p0))
def wp9_letter (r : qt6) (t : qt6) (m : qt2) (y : qt0) (x : qt5) (c : qt1) (u : qt6) (p0 : Int32) : Prop := ((wp6_at 1000 u p0) ∧ (am_fit .char (.inl (fn6_at 1000 u p0)) = true))
set_option maxRecDepth 100000 in
set_option maxHeartbeats 4000000 in
theorem re9_letter (r : qt6) (t : qt6) (m : qt2) (y : qt0) (x : qt5) (c : qt1) (u : qt6) (p0 : Int32) (hp : wp9_letter r t m y x c u p0) : am_lf (am_mk kb9_letter 0 0 27) [] (0, am_L0 [.inr (.inl 0), .inl p0] 2, [], (kw_H r t m y x c u), 0, 0) = some (some (.inl (fn9_letter r t m y x c u p0)), (kw_H r t m y x c u)) := by
  unfold wp9_letter at hp
  refine am_lf_eq ?_
  generalize am_lf (am_mk kb9_letter 0 0 27) [] = kt
  refine am_cy (pre := pr6_at) (f := fm6_at) (r := (some (.inl (fn6_at 1000 u p0)), (kw_T 1000 u), 0, 0)) ?_ ?_ ?_
  · exact ⟨1000, u, p0, rfl, rfl, hp.1⟩
  · exact fe6_at 1000 u p0
  refine am_sp (w' := (kw_H r t m y x c u)) rfl ?_
  refine am_ci (c := am_fit .char (.inl (fn6_at 1000 u p0)) = true) hp.2 ?_
  have e : fn9_letter r t m y x c u p0 = (fn6_at 1000 u p0) := by
    rw [fq9_letter]
  rw [e] <;> rfl
abbrev pr9_letter : List am_V → List am_C → Prop := fun a w => ∃ (r : qt6) (t : qt6) (m : qt2) (y : qt0) (x : qt5) (c : qt1) (u : qt6) (p0 : Int32), a = [.inr (.inl 0), .inl p0] ∧ w = (kw_H r t m y x c u) ∧ wp9_letter r t m y x c u p0
noncomputable def fm9_letter : am_M := fun a w => (fun (z : Int32) => (some (.inl z), (kw_H (qs6 w 1) (qs6 w 3) (qs2 w 5) (qs0 w 10) (qs5 w 15) (qs1 w 23) (qs6 w 25)), 0, 0)) (fn9_letter (qs6 w 1) (qs6 w 3) (qs2 w 5) (qs0 w 10) (qs5 w 15) (qs1 w 23) (qs6 w 25) (am_i (am_an a 1)))
theorem fe9_letter (r : qt6) (t : qt6) (m : qt2) (y : qt0) (x : qt5) (c : qt1) (u : qt6) (p0 : Int32) : fm9_letter [.inr (.inl 0), .inl p0] (kw_H r t m y x c u) = (some (.inl (fn9_letter r t m y x c u p0)), (kw_H r t m y x c u), 0, 0) := rfl
set_option maxRecDepth 100000 in
set_option maxHeartbeats 4000000 in
theorem rn9_letter : ∀ (a : List am_V) (w : List am_C), pr9_letter a w → ∃ n, am_ev (am_mk kb9_letter (fm9_letter a w).2.2.1 (fm9_letter a w).2.2.2 w.length) [] n (0, am_L0 a 2, [], w, 0, 0) = some ((fm9_letter a w).1, (fm9_letter a w).2.1) := by
  rintro a w ⟨r, t, m, y, x, c, u, p0, rfl, rfl, hp⟩
  rw [fe9_letter r t m y x c u p0]
  exact am_lf_ev (re9_letter r t m y x c u p0 hp)
theorem rl9_letter : ∀ (a : List am_V) (w : List am_C), pr9_letter a w → a.length ≤ 2 := by
  rintro a w ⟨r, t, m, y, x, c, u, p0, rfl, rfl, hp⟩
  exact Nat.le_of_ble_eq_true rfl
theorem pa9_letter : ∀ a w, pr9_letter a w → ∃ q a' ci fs r, a = .inr (.inl q) :: a' ∧ w[q]? = some (.inr (ci, fs)) ∧ hn_cl[ci]? = some r ∧ r.1 = hn_R9 := by
  rintro a w ⟨r, t, m, y, x, c, u, p0, rfl, rfl, hp⟩
  exact ⟨0, _, 9, _, _, rfl, rfl, rfl, rfl⟩
set_option maxRecDepth 100000 in
set_option maxHeartbeats 4000000 in
theorem km9_letter {l : Launch} {E : (Nat → Prop) → State → Prop} {D : va_G} {ou : Nat → Nat} {ca : Nat → ClassId} (hE : hg_E E ou) : hg_Met l E D ou ca hy9_letter prog_1_method_14_code 2 (some .char) 1 pr9_letter fm9_letter := by
  refine am_met (B := kb9_letter) (cuts := []) (nt := 5) (by decide +kernel) rfl rfl (hg_tys_ok ca) ?_ (by decide) rl9_letter ?_ rn9_letter
  · exact fun t ht => List.mem_cons_of_mem _ (hg_arr t ht)
  · intro a w hp ad p e R s m args below meth c hR X hEs hnm
    have hR1 : 1 ≤ R.frames ∧ 40 ≤ R.locals := by rw [hR]; exact ⟨Nat.le_refl _, Nat.le_refl _⟩
    have hN := hE.2.1 _ _ hEs
    refine ⟨kd9_letter_ok, fun index ci fi mode hq => kf9_ok X.2.2.2.2.1 hN.1 (index, ci, fi, mode) (am_as_mem hq), fun index ci fs hq => (am_no hq).elim, fun x v hq => (am_no hq).elim, ?_, fun o t n f hq => (am_no hq).elim, rfl, rfl, by rw [hR]; exact Nat.le_refl _, by rw [hR]; exact Nat.le_refl _⟩
    intro pc sel n0 pre0 f0 hq
    have hz : ∀ q ∈ ki9_letter, am_CK p l e R s m args below meth c D hn_cl (va_A (am_w ad ou ca w) s.heap.size) ou ca 2 q.1 q.2.2.1 q.2.2.2.1 q.2.2.2.2 := by
      refine am_allc (am_ck_V (n := 1) X hEs hE.1 (km6_at hE) (hg_good (gw_mem 318 (by decide +kernel))) rfl (List.mem_cons_of_mem _ (gw_mem 69 (by decide +kernel))) (List.mem_cons_of_mem _ (gw_mem 588 (by decide +kernel))) (List.mem_cons_of_mem _ (gw_mem 316 (by decide +kernel))) (List.mem_cons_of_mem _ (gw_mem 317 (by decide +kernel))) pa6_at (by decide +kernel) ⟨Nat.le_trans (by decide) hR1.1, Nat.le_trans (by decide) hR1.2⟩ (kd9_letter_ok (8, .invokevirtual 66, 3) (List.mem_of_getElem? (i := 4) rfl))) (am_all0)
    exact hz _ (am_as_mem hq)
