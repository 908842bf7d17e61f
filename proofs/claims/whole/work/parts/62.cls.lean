noncomputable def ki7_isStyleWord : List (Nat × Option (List Nat) × Nat × (List am_V → List am_C → Prop) × am_M) := [(2, none, 2, pr2_length, fm2_length), (19, none, 2, pr2_length, fm2_length), (32, none, 3, pr2_at, fm2_at), (39, some [], 1, pr4_isLetterOrDigit, fm4_isLetterOrDigit), (49, some [], 2, prJ_indexOf, fmJ_indexOf)]
def kc7_isStyleWord : List (Nat × am_V) := [(111, .inr (.inr (34 + 1)))]
noncomputable def kb7_isStyleWord : am_B := (kd7_isStyleWord, am_as kf7, hn_ty, fun _ => none, am_as kc7_isStyleWord, am_as ki7_isStyleWord, fun _ => none, 5, 5, (some .boolean))
noncomputable def fn7_isStyleWord_c16 : Nat → qt2 → Int32 → Int32 → Int32 → Int32
  | 0, _, _, _, _ => 0
  | fu + 1, m, v1, v2, v3 => (if (fn2_length m v1) ≤ v3 then v2 else (if v2 = 0 then v2 else (if (fn4_isLetterOrDigit (fn2_at m v1 v3)) = 0 then (if (fnJ_indexOf 34 (fn2_at m v1 v3)) < 0 then (fn7_isStyleWord_c16 fu m v1 (0 : Int32) (v3 + (1 : Int32))) else (fn7_isStyleWord_c16 fu m v1 (1 : Int32) (v3 + (1 : Int32)))) else (fn7_isStyleWord_c16 fu m v1 (1 : Int32) (v3 + (1 : Int32))))))
def wp7_isStyleWord_c16 : Nat → qt2 → Int32 → Int32 → Int32 → Prop
  | 0, _, _, _, _ => False
  | fu + 1, m, v1, v2, v3 => ((wp2_length m v1) ∧ (((fn2_length m v1) ≤ v3 → (am_fit .boolean (.inl v2) = true)) ∧ (¬ (fn2_length m v1) ≤ v3 → ((v2 = 0 → (am_fit .boolean (.inl v2) = true)) ∧ (¬ v2 = 0 → ((wp2_at m v1 v3) ∧ ((wp4_isLetterOrDigit (fn2_at m v1 v3)) ∧ (((fn4_isLetterOrDigit (fn2_at m v1 v3)) = 0 → ((wpJ_indexOf 34 (fn2_at m v1 v3)) ∧ (((fnJ_indexOf 34 (fn2_at m v1 v3)) < 0 → (wp7_isStyleWord_c16 fu m v1 (0 : Int32) (v3 + (1 : Int32)))) ∧ (¬ (fnJ_indexOf 34 (fn2_at m v1 v3)) < 0 → (wp7_isStyleWord_c16 fu m v1 (1 : Int32) (v3 + (1 : Int32))))))) ∧ (¬ (fn4_isLetterOrDigit (fn2_at m v1 v3)) = 0 → (wp7_isStyleWord_c16 fu m v1 (1 : Int32) (v3 + (1 : Int32))))))))))))
set_option maxRecDepth 100000 in
set_option maxHeartbeats 4000000 in
theorem rc7_isStyleWord_16 : ∀ (fu : Nat) (m : qt2) (v1 : Int32) (v2 : Int32) (v3 : Int32) (j4 : Option am_V) (g4 : am_loO 5 j4 = true) , wp7_isStyleWord_c16 fu m v1 v2 v3 → am_lf (am_mk kb7_isStyleWord 0 0 5) [16] (16, [some (.inr (.inl 0)), some (.inl v1), some (.inl v2), some (.inl v3), j4], [], (kw_I m), 0, 0) = some (some (.inl (fn7_isStyleWord_c16 fu m v1 v2 v3)), (kw_I m)) := by
  intro fu
  induction fu with
  | zero =>
    intro m v1 v2 v3 j4 g4 hp
    exact hp.elim
  | succ fu ih =>
    intro m v1 v2 v3 j4 g4 hp
    unfold wp7_isStyleWord_c16 at hp
    refine am_lf_eq ?_
    generalize am_lf (am_mk kb7_isStyleWord 0 0 5) [16] = kt at ih ⊢
    refine am_cx (pre := pr2_length) (f := fm2_length) (r := (some (.inl (fn2_length m v1)), (kw_I m), 0, 0)) ?_ ?_ ?_ ?_
    · exact ⟨m, v1, rfl, rfl, hp.1⟩
    · exact fe2_length m v1
    · exact (am_ac rfl (am_ac rfl (am_ac rfl (am_ac rfl (am_ac g4 am_a0)))))
    refine am_if (c := (fn2_length m v1) ≤ v3) (fun h2 => ?_) (fun h2 => ?_)
    · have q2 := hp.2.1 h2
      refine am_ci (c := am_fit .boolean (.inl v2) = true) q2 ?_
      have e : fn7_isStyleWord_c16 (fu + 1) m v1 v2 v3 = v2 := by
        rw [fn7_isStyleWord_c16]
        rw [if_pos h2]
      rw [e] <;> rfl
    · have q2 := hp.2.2 h2
      refine am_if (c := v2 = 0) (fun h3 => ?_) (fun h3 => ?_)
      · have q3 := q2.1 h3
        refine am_ci (c := am_fit .boolean (.inl v2) = true) q3 ?_
        have e : fn7_isStyleWord_c16 (fu + 1) m v1 v2 v3 = v2 := by
          rw [fn7_isStyleWord_c16]
          rw [if_neg h2, if_pos h3]
        rw [e] <;> rfl
      · have q3 := q2.2 h3
        refine am_cx (pre := pr2_at) (f := fm2_at) (r := (some (.inl (fn2_at m v1 v3)), (kw_I m), 0, 0)) ?_ ?_ ?_ ?_
        · exact ⟨m, v1, v3, rfl, rfl, q3.1⟩
        · exact fe2_at m v1 v3
        · exact (am_ac rfl (am_ac rfl (am_ac rfl (am_ac rfl (am_ac g4 am_a0)))))
        refine am_cy (pre := pr4_isLetterOrDigit) (f := fm4_isLetterOrDigit) (a' := [.inl (fn2_at m v1 v3)]) (wc := []) (w' := (kw_I m)) (r := (some (.inl (fn4_isLetterOrDigit (fn2_at m v1 v3))), [], 0, 0)) ?_ ?_ ?_ ?_ ?_ ?_ ?_ ?_ ?_ ?_
        · exact am_sow0 _
        · rfl
        · rfl
        · exact am_sub0 _
        · exact ⟨(fn2_at m v1 v3), rfl, rfl, q3.2.1⟩
        · exact fe4_isLetterOrDigit (fn2_at m v1 v3)
        · exact rfl
        · rfl
        · exact am_mix0 _
        refine am_if (c := (fn4_isLetterOrDigit (fn2_at m v1 v3)) = 0) (fun h4 => ?_) (fun h4 => ?_)
        · have q4 := q3.2.2.1 h4
          refine am_cy (pre := prJ_indexOf) (f := fmJ_indexOf) (a' := [.inr (.inr (34 + 1)), .inl (fn2_at m v1 v3)]) (wc := []) (w' := (kw_I m)) (r := (some (.inl (fnJ_indexOf 34 (fn2_at m v1 v3))), [], 0, 0)) ?_ ?_ ?_ ?_ ?_ ?_ ?_ ?_ ?_ ?_
          · exact am_sow0 _
          · rfl
          · rfl
          · exact am_sub0 _
          · exact ⟨34, (fn2_at m v1 v3), rfl, rfl, q4.1⟩
          · exact feJ_indexOf 34 (fn2_at m v1 v3)
          · exact rfl
          · rfl
          · exact am_mix0 _
          refine am_if (c := (fnJ_indexOf 34 (fn2_at m v1 v3)) < 0) (fun h5 => ?_) (fun h5 => ?_)
          · have q5 := q4.2.1 h5
            have e : fn7_isStyleWord_c16 (fu + 1) m v1 v2 v3 = fn7_isStyleWord_c16 fu m v1 (0 : Int32) (v3 + (1 : Int32)) := by
              rw [fn7_isStyleWord_c16]
              rw [if_neg h2, if_neg h3, if_pos h4, if_pos h5]
            rw [e]
            exact ih m v1 (0 : Int32) (v3 + (1 : Int32)) _ rfl q5
          · have q5 := q4.2.2 h5
            have e : fn7_isStyleWord_c16 (fu + 1) m v1 v2 v3 = fn7_isStyleWord_c16 fu m v1 (1 : Int32) (v3 + (1 : Int32)) := by
              rw [fn7_isStyleWord_c16]
              rw [if_neg h2, if_neg h3, if_pos h4, if_neg h5]
            rw [e]
            exact ih m v1 (1 : Int32) (v3 + (1 : Int32)) _ rfl q5
        · have q4 := q3.2.2.2 h4
          have e : fn7_isStyleWord_c16 (fu + 1) m v1 v2 v3 = fn7_isStyleWord_c16 fu m v1 (1 : Int32) (v3 + (1 : Int32)) := by
            rw [fn7_isStyleWord_c16]
            rw [if_neg h2, if_neg h3, if_neg h4]
          rw [e]
          exact ih m v1 (1 : Int32) (v3 + (1 : Int32)) _ rfl q4
noncomputable def fn7_isStyleWord (m : qt2) (p1 : Int32) : Int32 := Classical.choose (⟨_, rfl⟩ : ∃ z : Int32, z = (if (fn2_length m p1) ≤ 0 then (fn7_isStyleWord_c16 hg_fu m p1 (0 : Int32) (0 : Int32)) else (fn7_isStyleWord_c16 hg_fu m p1 (1 : Int32) (0 : Int32))))
theorem fq7_isStyleWord (m : qt2) (p1 : Int32) : fn7_isStyleWord m p1 = (if (fn2_length m p1) ≤ 0 then (fn7_isStyleWord_c16 hg_fu m p1 (0 : Int32) (0 : Int32)) else (fn7_isStyleWord_c16 hg_fu m p1 (1 : Int32) (0 : Int32))) := Classical.choose_spec (⟨_, rfl⟩ : ∃ z : Int32, z = (if (fn2_length m p1) ≤ 0 then (fn7_isStyleWord_c16 hg_fu m p1 (0 : Int32) (0 : Int32)) else (fn7_isStyleWord_c16 hg_fu m p1 (1 : Int32) (0 : Int32))))
def wp7_isStyleWord (m : qt2) (p1 : Int32) : Prop := ((wp2_length m p1) ∧ (((fn2_length m p1) ≤ 0 → (wp7_isStyleWord_c16 hg_fu m p1 (0 : Int32) (0 : Int32))) ∧ (¬ (fn2_length m p1) ≤ 0 → (wp7_isStyleWord_c16 hg_fu m p1 (1 : Int32) (0 : Int32)))))
set_option maxRecDepth 100000 in
set_option maxHeartbeats 4000000 in
theorem re7_isStyleWord (m : qt2) (p1 : Int32) (hp : wp7_isStyleWord m p1) : am_lf (am_mk kb7_isStyleWord 0 0 5) [16] (0, am_L0 [.inr (.inl 0), .inl p1] 5, [], (kw_I m), 0, 0) = some (some (.inl (fn7_isStyleWord m p1)), (kw_I m)) := by
  unfold wp7_isStyleWord at hp
  have i16 := @rc7_isStyleWord_16
  refine am_lf_eq ?_
  generalize am_lf (am_mk kb7_isStyleWord 0 0 5) [16] = kt at i16 ⊢
  refine am_cx (pre := pr2_length) (f := fm2_length) (r := (some (.inl (fn2_length m p1)), (kw_I m), 0, 0)) ?_ ?_ ?_ ?_
  · exact ⟨m, p1, rfl, rfl, hp.1⟩
  · exact fe2_length m p1
  · exact rfl
  refine am_if (c := (fn2_length m p1) ≤ 0) (fun h1 => ?_) (fun h1 => ?_)
  · have q1 := hp.2.1 h1
    have e : fn7_isStyleWord m p1 = fn7_isStyleWord_c16 hg_fu m p1 (0 : Int32) (0 : Int32) := by
      rw [fq7_isStyleWord]
      rw [if_pos h1]
    rw [e]
    exact i16 hg_fu m p1 (0 : Int32) (0 : Int32) _ rfl q1
  · have q1 := hp.2.2 h1
    have e : fn7_isStyleWord m p1 = fn7_isStyleWord_c16 hg_fu m p1 (1 : Int32) (0 : Int32) := by
      rw [fq7_isStyleWord]
      rw [if_neg h1]
    rw [e]
    exact i16 hg_fu m p1 (1 : Int32) (0 : Int32) _ rfl q1
abbrev pr7_isStyleWord : List am_V → List am_C → Prop := fun a w => ∃ (m : qt2) (p1 : Int32), a = [.inr (.inl 0), .inl p1] ∧ w = (kw_I m) ∧ wp7_isStyleWord m p1
noncomputable def fm7_isStyleWord : am_M := fun a w => (fun (z : Int32) => (some (.inl z), (kw_I (qs2 w 0)), 0, 0)) (fn7_isStyleWord (qs2 w 0) (am_i (am_an a 1)))
theorem fe7_isStyleWord (m : qt2) (p1 : Int32) : fm7_isStyleWord [.inr (.inl 0), .inl p1] (kw_I m) = (some (.inl (fn7_isStyleWord m p1)), (kw_I m), 0, 0) := rfl
set_option maxRecDepth 100000 in
set_option maxHeartbeats 4000000 in
theorem rn7_isStyleWord : ∀ (a : List am_V) (w : List am_C), pr7_isStyleWord a w → ∃ nq, am_ev (am_mk kb7_isStyleWord (fm7_isStyleWord a w).2.2.1 (fm7_isStyleWord a w).2.2.2 w.length) [16] nq (0, am_L0 a 5, [], w, 0, 0) = some ((fm7_isStyleWord a w).1, (fm7_isStyleWord a w).2.1) := by
  rintro a w ⟨m, p1, rfl, rfl, hp⟩
  rw [fe7_isStyleWord m p1]
  exact am_lf_ev (re7_isStyleWord m p1 hp)
theorem rl7_isStyleWord : ∀ (a : List am_V) (w : List am_C), pr7_isStyleWord a w → a.length ≤ 5 := by
  rintro a w ⟨m, p1, rfl, rfl, hp⟩
  exact Nat.le_of_ble_eq_true rfl
set_option maxRecDepth 100000 in
set_option maxHeartbeats 4000000 in
theorem km7_isStyleWord {l : Launch} {E : (Nat → Prop) → State → Prop} {D : va_G} {ou : Nat → Nat} {ca : Nat → ClassId} (hE : hg_E E ou) : hg_Met l E D ou ca hy7_isStyleWord prog_9_method_10_code 5 (some .boolean) 4 pr7_isStyleWord fm7_isStyleWord := by
  refine am_met (B := kb7_isStyleWord) (cuts := [16]) (nt := 5) (by decide +kernel) rfl rfl (hg_tys_ok ca) ?_ (by decide) rl7_isStyleWord ?_ rn7_isStyleWord
  · exact fun t ht => List.mem_cons_of_mem _ (hg_arr t ht)
  · intro a w hp ad p e R s m args below meth c hR X hEs hnm
    have hR1 : 4 ≤ R.frames ∧ 160 ≤ R.locals := by rw [hR]; exact ⟨Nat.le_refl _, Nat.le_refl _⟩
    have hN := hE.2.1 _ _ hEs
    have hc : ∀ q ∈ kc7_isStyleWord, am_LK s hn_R7 args ou q.1 q.2 := am_allc (hg_lk hN.2 34 rfl) (am_all0)
    refine ⟨kd7_isStyleWord_ok, fun index ci fi mode hq => kf7_ok X.2.2.2.2.1 hN.1 (index, ci, fi, mode) (am_as_mem hq), fun index ci fs hq => (am_no hq).elim, fun x v hq => hc (x, v) (am_as_mem hq), ?_, fun o t n f hq => (am_no hq).elim, rfl, rfl, by rw [hR]; exact Nat.le_refl _, by rw [hR]; exact Nat.le_refl _⟩
    intro pc sel n0 pre0 f0 hq
    have hz : ∀ q ∈ ki7_isStyleWord, am_CK p l e R s m args below meth c D hn_cl (va_A (am_w ad ou ca w) s.heap.size) ou ca 5 q.1 q.2.2.1 q.2.2.2.1 q.2.2.2.2 := by
      refine am_allc (am_ck_V (n := 1) X hEs hE.1 (km2_length hE) (hg_good (gw_mem 805 (by decide +kernel))) rfl (List.mem_cons_of_mem _ (gw_mem 71 (by decide +kernel))) (List.mem_cons_of_mem _ (gw_mem 802 (by decide +kernel))) (List.mem_cons_of_mem _ (gw_mem 803 (by decide +kernel))) (List.mem_cons_of_mem _ (gw_mem 804 (by decide +kernel))) pa2_length (by decide +kernel) ⟨Nat.le_trans (by decide) hR1.1, Nat.le_trans (by decide) hR1.2⟩ (kd7_isStyleWord_ok (2, .invokevirtual 41, 3) (List.mem_of_getElem? (i := 2) rfl))) (am_allc (am_ck_V (n := 1) X hEs hE.1 (km2_length hE) (hg_good (gw_mem 805 (by decide +kernel))) rfl (List.mem_cons_of_mem _ (gw_mem 71 (by decide +kernel))) (List.mem_cons_of_mem _ (gw_mem 802 (by decide +kernel))) (List.mem_cons_of_mem _ (gw_mem 803 (by decide +kernel))) (List.mem_cons_of_mem _ (gw_mem 804 (by decide +kernel))) pa2_length (by decide +kernel) ⟨Nat.le_trans (by decide) hR1.1, Nat.le_trans (by decide) hR1.2⟩ (kd7_isStyleWord_ok (19, .invokevirtual 41, 3) (List.mem_of_getElem? (i := 13) rfl))) (am_allc (am_ck_V (n := 2) X hEs hE.1 (km2_at hE) (hg_good (gw_mem 809 (by decide +kernel))) rfl (List.mem_cons_of_mem _ (gw_mem 71 (by decide +kernel))) (List.mem_cons_of_mem _ (gw_mem 806 (by decide +kernel))) (List.mem_cons_of_mem _ (gw_mem 807 (by decide +kernel))) (List.mem_cons_of_mem _ (gw_mem 808 (by decide +kernel))) pa2_at (by decide +kernel) ⟨Nat.le_trans (by decide) hR1.1, Nat.le_trans (by decide) hR1.2⟩ (kd7_isStyleWord_ok (32, .invokevirtual 47, 3) (List.mem_of_getElem? (i := 20) rfl))) (am_allc (am_ck_S (n := 1) X hEs hE.1 (km4_isLetterOrDigit hE) (hg_good (gw_mem 358 (by decide +kernel))) rfl (List.mem_cons_of_mem _ (gw_mem 77 (by decide +kernel))) (List.mem_cons_of_mem _ (gw_mem 901 (by decide +kernel))) (List.mem_cons_of_mem _ (gw_mem 357 (by decide +kernel))) (by decide +kernel) ⟨Nat.le_trans (by decide) hR1.1, Nat.le_trans (by decide) hR1.2⟩ (kd7_isStyleWord_ok (39, .invokestatic 65, 3) (List.mem_of_getElem? (i := 23) rfl))) (am_allc (am_ck_VS (n := 1) X hEs hE (kmJ_indexOf hE) (hg_good (gw_mem 830 (by decide +kernel))) rfl (List.mem_cons_of_mem _ (gw_mem 83 (by decide +kernel))) (List.mem_cons_of_mem _ (gw_mem 827 (by decide +kernel))) (List.mem_cons_of_mem _ (gw_mem 828 (by decide +kernel))) (List.mem_cons_of_mem _ (gw_mem 829 (by decide +kernel))) rfl paJ_indexOf (by decide +kernel) ⟨Nat.le_trans (by decide) hR1.1, Nat.le_trans (by decide) hR1.2⟩ (kd7_isStyleWord_ok (49, .invokevirtual 72, 3) (List.mem_of_getElem? (i := 27) rfl))) (am_all0)))))
    exact hz _ (am_as_mem hq)
noncomputable def ki7_putBareStyle : List (Nat × Option (List Nat) × Nat × (List am_V → List am_C → Prop) × am_M) := [(2, some [2, 3, 4, 5, 6], 2, pr7_isStyleWord, fm7_isStyleWord), (11, some [0, 1], 2, pr6_putAll, fm6_putAll), (20, some [2, 3, 4, 5, 6], 2, pr2_length, fm2_length), (30, some [2, 3, 4, 5, 6], 3, pr2_at, fm2_at), (33, some [0, 1], 2, pr6_put, fm6_put)]
def kc7_putBareStyle : List (Nat × am_V) := [(109, .inr (.inr (35 + 1)))]
noncomputable def kb7_putBareStyle : am_B := (kd7_putBareStyle, am_as kf7, hn_ty, fun _ => none, am_as kc7_putBareStyle, am_as ki7_putBareStyle, fun _ => none, 5, 4, none)
noncomputable def fn7_putBareStyle_c17 : Nat → qt6 → qt2 → Int32 → Int32 → qt6
  | 0, t, _, _, _ => t
  | fu + 1, t, m, v2, v3 => (if (fn2_length m v2) ≤ v3 then t else (fn7_putBareStyle_c17 fu ((fn6_put 1000 t (fn2_at m v2 v3)).2) m v2 (v3 + (1 : Int32))))
def wp7_putBareStyle_c17 : Nat → qt6 → qt2 → Int32 → Int32 → Prop
  | 0, _, _, _, _ => False
  | fu + 1, t, m, v2, v3 => ((wp2_length m v2) ∧ (((fn2_length m v2) ≤ v3 → True) ∧ (¬ (fn2_length m v2) ≤ v3 → ((wp2_at m v2 v3) ∧ ((wp6_put 1000 t (fn2_at m v2 v3)) ∧ (wp7_putBareStyle_c17 fu ((fn6_put 1000 t (fn2_at m v2 v3)).2) m v2 (v3 + (1 : Int32))))))))
set_option maxRecDepth 100000 in
set_option maxHeartbeats 4000000 in
theorem rc7_putBareStyle_17 : ∀ (fu : Nat) (t : qt6) (m : qt2) (v2 : Int32) (v3 : Int32) , wp7_putBareStyle_c17 fu t m v2 v3 → am_lf (am_mk kb7_putBareStyle 0 0 7) [17] (17, [some (.inr (.inl 0)), some (.inr (.inl 2)), some (.inl v2), some (.inl v3)], [], (kw_TI t m), 0, 0) = some (none, (kw_TI (fn7_putBareStyle_c17 fu t m v2 v3) m)) := by
  intro fu
  induction fu with
  | zero =>
    intro t m v2 v3 hp
    exact hp.elim
  | succ fu ih =>
    intro t m v2 v3 hp
    unfold wp7_putBareStyle_c17 at hp
    refine am_lf_eq ?_
    generalize am_lf (am_mk kb7_putBareStyle 0 0 7) [17] = kt at ih ⊢
    refine am_cy (pre := pr2_length) (f := fm2_length) (a' := [.inr (.inl 0), .inl v2]) (wc := (kw_I m)) (w' := (kw_TI t m)) (r := (some (.inl (fn2_length m v2)), (kw_I m), 0, 0)) ?_ ?_ ?_ ?_ ?_ ?_ ?_ ?_ ?_ ?_
    · exact ks_TI_I_1_o t m
    · rfl
    · rfl
    · exact ks_TI_I_1_s t m
    · exact ⟨m, v2, rfl, rfl, hp.1⟩
    · exact fe2_length m v2
    · exact kwl_I m
    · rfl
    · exact ks_TI_I_1_m t m m
    refine am_if (c := (fn2_length m v2) ≤ v3) (fun h2 => ?_) (fun h2 => ?_)
    · have e : fn7_putBareStyle_c17 (fu + 1) t m v2 v3 = t := by
        rw [fn7_putBareStyle_c17]
        rw [if_pos h2]
      rw [e] <;> rfl
    · have q2 := hp.2.2 h2
      refine am_cy (pre := pr2_at) (f := fm2_at) (a' := [.inr (.inl 0), .inl v2, .inl v3]) (wc := (kw_I m)) (w' := (kw_TI t m)) (r := (some (.inl (fn2_at m v2 v3)), (kw_I m), 0, 0)) ?_ ?_ ?_ ?_ ?_ ?_ ?_ ?_ ?_ ?_
      · exact ks_TI_I_1_o t m
      · rfl
      · rfl
      · exact ks_TI_I_1_s t m
      · exact ⟨m, v2, v3, rfl, rfl, q2.1⟩
      · exact fe2_at m v2 v3
      · exact kwl_I m
      · rfl
      · exact ks_TI_I_1_m t m m
      refine am_cy (pre := pr6_put) (f := fm6_put) (a' := [.inr (.inl 0), .inl (fn2_at m v2 v3)]) (wc := (kw_T 1000 t)) (w' := (kw_TI ((fn6_put 1000 t (fn2_at m v2 v3)).2) m)) (r := (some (.inl ((fn6_put 1000 t (fn2_at m v2 v3)).1)), (kw_T 1000 ((fn6_put 1000 t (fn2_at m v2 v3)).2)), 0, 0)) ?_ ?_ ?_ ?_ ?_ ?_ ?_ ?_ ?_ ?_
      · exact ks_TI_T_0_o t m
      · rfl
      · rfl
      · exact ks_TI_T_0_s t m
      · exact ⟨1000, t, (fn2_at m v2 v3), rfl, rfl, q2.2.1⟩
      · exact fe6_put 1000 t (fn2_at m v2 v3)
      · exact kwl_T 1000 ((fn6_put 1000 t (fn2_at m v2 v3)).2)
      · rfl
      · exact ks_TI_T_0_m t m ((fn6_put 1000 t (fn2_at m v2 v3)).2)
      have e : fn7_putBareStyle_c17 (fu + 1) t m v2 v3 = fn7_putBareStyle_c17 fu ((fn6_put 1000 t (fn2_at m v2 v3)).2) m v2 (v3 + (1 : Int32)) := by
        rw [fn7_putBareStyle_c17]
        rw [if_neg h2]
      rw [e]
      exact ih ((fn6_put 1000 t (fn2_at m v2 v3)).2) m v2 (v3 + (1 : Int32))  q2.2.2
noncomputable def fn7_putBareStyle (t : qt6) (m : qt2) (p2 : Int32) : qt6 := Classical.choose (⟨_, rfl⟩ : ∃ z : qt6, z = (if (fn7_isStyleWord m p2) = 0 then (fn6_putAll 1000 t 35) else (fn7_putBareStyle_c17 hg_fu t m p2 (0 : Int32))))
theorem fq7_putBareStyle (t : qt6) (m : qt2) (p2 : Int32) : fn7_putBareStyle t m p2 = (if (fn7_isStyleWord m p2) = 0 then (fn6_putAll 1000 t 35) else (fn7_putBareStyle_c17 hg_fu t m p2 (0 : Int32))) := Classical.choose_spec (⟨_, rfl⟩ : ∃ z : qt6, z = (if (fn7_isStyleWord m p2) = 0 then (fn6_putAll 1000 t 35) else (fn7_putBareStyle_c17 hg_fu t m p2 (0 : Int32))))
def wp7_putBareStyle (t : qt6) (m : qt2) (p2 : Int32) : Prop := ((wp7_isStyleWord m p2) ∧ (((fn7_isStyleWord m p2) = 0 → (wp6_putAll 1000 t 35)) ∧ (¬ (fn7_isStyleWord m p2) = 0 → (wp7_putBareStyle_c17 hg_fu t m p2 (0 : Int32)))))
set_option maxRecDepth 100000 in
set_option maxHeartbeats 4000000 in
theorem re7_putBareStyle (t : qt6) (m : qt2) (p2 : Int32) (hp : wp7_putBareStyle t m p2) : am_lf (am_mk kb7_putBareStyle 0 0 7) [17] (0, am_L0 [.inr (.inl 0), .inr (.inl 2), .inl p2] 4, [], (kw_TI t m), 0, 0) = some (none, (kw_TI (fn7_putBareStyle t m p2) m)) := by
  unfold wp7_putBareStyle at hp
  have i17 := @rc7_putBareStyle_17
  refine am_lf_eq ?_
  generalize am_lf (am_mk kb7_putBareStyle 0 0 7) [17] = kt at i17 ⊢
  refine am_cy (pre := pr7_isStyleWord) (f := fm7_isStyleWord) (a' := [.inr (.inl 0), .inl p2]) (wc := (kw_I m)) (w' := (kw_TI t m)) (r := (some (.inl (fn7_isStyleWord m p2)), (kw_I m), 0, 0)) ?_ ?_ ?_ ?_ ?_ ?_ ?_ ?_ ?_ ?_
  · exact ks_TI_I_1_o t m
  · rfl
  · rfl
  · exact ks_TI_I_1_s t m
  · exact ⟨m, p2, rfl, rfl, hp.1⟩
  · exact fe7_isStyleWord m p2
  · exact kwl_I m
  · rfl
  · exact ks_TI_I_1_m t m m
  refine am_if (c := (fn7_isStyleWord m p2) = 0) (fun h1 => ?_) (fun h1 => ?_)
  · have q1 := hp.2.1 h1
    refine am_cy (pre := pr6_putAll) (f := fm6_putAll) (a' := [.inr (.inl 0), .inr (.inr (35 + 1))]) (wc := (kw_T 1000 t)) (w' := (kw_TI (fn6_putAll 1000 t 35) m)) (r := (none, (kw_T 1000 (fn6_putAll 1000 t 35)), 0, 0)) ?_ ?_ ?_ ?_ ?_ ?_ ?_ ?_ ?_ ?_
    · exact ks_TI_T_0_o t m
    · rfl
    · rfl
    · exact ks_TI_T_0_s t m
    · exact ⟨1000, t, 35, rfl, rfl, q1⟩
    · exact fe6_putAll 1000 t 35
    · exact kwl_T 1000 (fn6_putAll 1000 t 35)
    · rfl
    · exact ks_TI_T_0_m t m (fn6_putAll 1000 t 35)
    have e : fn7_putBareStyle t m p2 = (fn6_putAll 1000 t 35) := by
      rw [fq7_putBareStyle]
      rw [if_pos h1]
    rw [e] <;> rfl
  · have q1 := hp.2.2 h1
    have e : fn7_putBareStyle t m p2 = fn7_putBareStyle_c17 hg_fu t m p2 (0 : Int32) := by
      rw [fq7_putBareStyle]
      rw [if_neg h1]
    rw [e]
    exact i17 hg_fu t m p2 (0 : Int32)  q1
abbrev pr7_putBareStyle : List am_V → List am_C → Prop := fun a w => ∃ (t : qt6) (m : qt2) (p2 : Int32), a = [.inr (.inl 0), .inr (.inl 2), .inl p2] ∧ w = (kw_TI t m) ∧ wp7_putBareStyle t m p2
noncomputable def fm7_putBareStyle : am_M := fun a w => (fun (z : qt6) => (none, (kw_TI z (qs2 w 2)), 0, 0)) (fn7_putBareStyle (qs6 w 0) (qs2 w 2) (am_i (am_an a 2)))
theorem fe7_putBareStyle (t : qt6) (m : qt2) (p2 : Int32) : fm7_putBareStyle [.inr (.inl 0), .inr (.inl 2), .inl p2] (kw_TI t m) = (none, (kw_TI (fn7_putBareStyle t m p2) m), 0, 0) := rfl
set_option maxRecDepth 100000 in
set_option maxHeartbeats 4000000 in
theorem rn7_putBareStyle : ∀ (a : List am_V) (w : List am_C), pr7_putBareStyle a w → ∃ nq, am_ev (am_mk kb7_putBareStyle (fm7_putBareStyle a w).2.2.1 (fm7_putBareStyle a w).2.2.2 w.length) [17] nq (0, am_L0 a 4, [], w, 0, 0) = some ((fm7_putBareStyle a w).1, (fm7_putBareStyle a w).2.1) := by
  rintro a w ⟨t, m, p2, rfl, rfl, hp⟩
  rw [fe7_putBareStyle t m p2]
  exact am_lf_ev (re7_putBareStyle t m p2 hp)
theorem rl7_putBareStyle : ∀ (a : List am_V) (w : List am_C), pr7_putBareStyle a w → a.length ≤ 4 := by
  rintro a w ⟨t, m, p2, rfl, rfl, hp⟩
  exact Nat.le_of_ble_eq_true rfl
set_option maxRecDepth 100000 in
set_option maxHeartbeats 4000000 in
theorem km7_putBareStyle {l : Launch} {E : (Nat → Prop) → State → Prop} {D : va_G} {ou : Nat → Nat} {ca : Nat → ClassId} (hE : hg_E E ou) : hg_Met l E D ou ca hy7_putBareStyle prog_9_method_9_code 4 none 5 pr7_putBareStyle fm7_putBareStyle := by
  refine am_met (B := kb7_putBareStyle) (cuts := [17]) (nt := 5) (by decide +kernel) rfl rfl (hg_tys_ok ca) ?_ (by decide) rl7_putBareStyle ?_ rn7_putBareStyle
  · exact fun t ht => List.mem_cons_of_mem _ (hg_arr t ht)
  · intro a w hp ad p e R s m args below meth c hR X hEs hnm
    have hR1 : 5 ≤ R.frames ∧ 200 ≤ R.locals := by rw [hR]; exact ⟨Nat.le_refl _, Nat.le_refl _⟩
    have hN := hE.2.1 _ _ hEs
    have hc : ∀ q ∈ kc7_putBareStyle, am_LK s hn_R7 args ou q.1 q.2 := am_allc (hg_lk hN.2 35 rfl) (am_all0)
    refine ⟨kd7_putBareStyle_ok, fun index ci fi mode hq => kf7_ok X.2.2.2.2.1 hN.1 (index, ci, fi, mode) (am_as_mem hq), fun index ci fs hq => (am_no hq).elim, fun x v hq => hc (x, v) (am_as_mem hq), ?_, fun o t n f hq => (am_no hq).elim, rfl, rfl, by rw [hR]; exact Nat.le_refl _, by rw [hR]; exact Nat.le_refl _⟩
    intro pc sel n0 pre0 f0 hq
    have hz : ∀ q ∈ ki7_putBareStyle, am_CK p l e R s m args below meth c D hn_cl (va_A (am_w ad ou ca w) s.heap.size) ou ca 4 q.1 q.2.2.1 q.2.2.2.1 q.2.2.2.2 := by
      refine am_allc (am_ck_S (n := 2) X hEs hE.1 (km7_isStyleWord hE) (hg_good (gw_mem 931 (by decide +kernel))) rfl (List.mem_cons_of_mem _ (gw_mem 90 (by decide +kernel))) (List.mem_cons_of_mem _ (gw_mem 929 (by decide +kernel))) (List.mem_cons_of_mem _ (gw_mem 930 (by decide +kernel))) (by decide +kernel) ⟨Nat.le_trans (by decide) hR1.1, Nat.le_trans (by decide) hR1.2⟩ (kd7_putBareStyle_ok (2, .invokestatic 106, 3) (List.mem_of_getElem? (i := 2) rfl))) (am_allc (am_ck_V (n := 1) X hEs hE.1 (km6_putAll hE) (hg_good (gw_mem 814 (by decide +kernel))) rfl (List.mem_cons_of_mem _ (gw_mem 69 (by decide +kernel))) (List.mem_cons_of_mem _ (gw_mem 811 (by decide +kernel))) (List.mem_cons_of_mem _ (gw_mem 812 (by decide +kernel))) (List.mem_cons_of_mem _ (gw_mem 813 (by decide +kernel))) pa6_putAll (by decide +kernel) ⟨Nat.le_trans (by decide) hR1.1, Nat.le_trans (by decide) hR1.2⟩ (kd7_putBareStyle_ok (11, .invokevirtual 21, 3) (List.mem_of_getElem? (i := 6) rfl))) (am_allc (am_ck_V (n := 1) X hEs hE.1 (km2_length hE) (hg_good (gw_mem 805 (by decide +kernel))) rfl (List.mem_cons_of_mem _ (gw_mem 71 (by decide +kernel))) (List.mem_cons_of_mem _ (gw_mem 802 (by decide +kernel))) (List.mem_cons_of_mem _ (gw_mem 803 (by decide +kernel))) (List.mem_cons_of_mem _ (gw_mem 804 (by decide +kernel))) pa2_length (by decide +kernel) ⟨Nat.le_trans (by decide) hR1.1, Nat.le_trans (by decide) hR1.2⟩ (kd7_putBareStyle_ok (20, .invokevirtual 41, 3) (List.mem_of_getElem? (i := 13) rfl))) (am_allc (am_ck_V (n := 2) X hEs hE.1 (km2_at hE) (hg_good (gw_mem 809 (by decide +kernel))) rfl (List.mem_cons_of_mem _ (gw_mem 71 (by decide +kernel))) (List.mem_cons_of_mem _ (gw_mem 806 (by decide +kernel))) (List.mem_cons_of_mem _ (gw_mem 807 (by decide +kernel))) (List.mem_cons_of_mem _ (gw_mem 808 (by decide +kernel))) pa2_at (by decide +kernel) ⟨Nat.le_trans (by decide) hR1.1, Nat.le_trans (by decide) hR1.2⟩ (kd7_putBareStyle_ok (30, .invokevirtual 47, 3) (List.mem_of_getElem? (i := 19) rfl))) (am_allc (am_ck_V (n := 1) X hEs hE.1 (km6_put hE) (hg_good (gw_mem 290 (by decide +kernel))) rfl (List.mem_cons_of_mem _ (gw_mem 69 (by decide +kernel))) (List.mem_cons_of_mem _ (gw_mem 822 (by decide +kernel))) (List.mem_cons_of_mem _ (gw_mem 288 (by decide +kernel))) (List.mem_cons_of_mem _ (gw_mem 289 (by decide +kernel))) pa6_put (by decide +kernel) ⟨Nat.le_trans (by decide) hR1.1, Nat.le_trans (by decide) hR1.2⟩ (kd7_putBareStyle_ok (33, .invokevirtual 61, 3) (List.mem_of_getElem? (i := 20) rfl))) (am_all0)))))
    exact hz _ (am_as_mem hq)
noncomputable def ki7_putStyleString : List (Nat × Option (List Nat) × Nat × (List am_V → List am_C → Prop) × am_M) := [(5, some [2, 3, 4, 5, 6], 2, pr2_length, fm2_length), (14, some [2, 3, 4, 5, 6], 3, pr2_at, fm2_at), (21, some [], 1, pr7_staysInCode, fm7_staysInCode), (30, some [0, 1], 2, pr6_put, fm6_put), (40, some [0, 1], 2, pr6_put, fm6_put), (47, some [0, 1], 2, pr6_putHex, fm6_putHex), (53, some [0, 1], 2, pr6_put, fm6_put)]
noncomputable def kb7_putStyleString : am_B := (kd7_putStyleString, am_as kf7, hn_ty, fun _ => none, fun _ => none, am_as ki7_putStyleString, fun _ => none, 5, 5, none)
noncomputable def fn7_putStyleString_c2 : Nat → qt6 → qt2 → Int32 → Int32 → qt6
  | 0, t, _, _, _ => t
  | fu + 1, t, m, v2, v3 => (if (fn2_length m v2) ≤ v3 then t else (if (fn7_staysInCode (fn2_at m v2 v3)) = 0 then (fn7_putStyleString_c2 fu ((fn6_put 1000 (fn6_putHex 1000 ((fn6_put 1000 t (92 : Int32)).2) (fn2_at m v2 v3)) (32 : Int32)).2) m v2 (v3 + (1 : Int32))) else (fn7_putStyleString_c2 fu ((fn6_put 1000 t (fn2_at m v2 v3)).2) m v2 (v3 + (1 : Int32)))))
def wp7_putStyleString_c2 : Nat → qt6 → qt2 → Int32 → Int32 → Prop
  | 0, _, _, _, _ => False
  | fu + 1, t, m, v2, v3 => ((wp2_length m v2) ∧ (((fn2_length m v2) ≤ v3 → True) ∧ (¬ (fn2_length m v2) ≤ v3 → ((wp2_at m v2 v3) ∧ ((wp7_staysInCode (fn2_at m v2 v3)) ∧ (((fn7_staysInCode (fn2_at m v2 v3)) = 0 → ((wp6_put 1000 t (92 : Int32)) ∧ ((wp6_putHex 1000 ((fn6_put 1000 t (92 : Int32)).2) (fn2_at m v2 v3)) ∧ ((wp6_put 1000 (fn6_putHex 1000 ((fn6_put 1000 t (92 : Int32)).2) (fn2_at m v2 v3)) (32 : Int32)) ∧ (wp7_putStyleString_c2 fu ((fn6_put 1000 (fn6_putHex 1000 ((fn6_put 1000 t (92 : Int32)).2) (fn2_at m v2 v3)) (32 : Int32)).2) m v2 (v3 + (1 : Int32))))))) ∧ (¬ (fn7_staysInCode (fn2_at m v2 v3)) = 0 → ((wp6_put 1000 t (fn2_at m v2 v3)) ∧ (wp7_putStyleString_c2 fu ((fn6_put 1000 t (fn2_at m v2 v3)).2) m v2 (v3 + (1 : Int32)))))))))))
set_option maxRecDepth 100000 in
set_option maxHeartbeats 4000000 in
theorem rc7_putStyleString_2 : ∀ (fu : Nat) (t : qt6) (m : qt2) (v2 : Int32) (v3 : Int32) (j4 : Option am_V) (g4 : am_loO 7 j4 = true) , wp7_putStyleString_c2 fu t m v2 v3 → am_lf (am_mk kb7_putStyleString 0 0 7) [2] (2, [some (.inr (.inl 0)), some (.inr (.inl 2)), some (.inl v2), some (.inl v3), j4], [], (kw_TI t m), 0, 0) = some (none, (kw_TI (fn7_putStyleString_c2 fu t m v2 v3) m)) := by
  intro fu
  induction fu with
  | zero =>
    intro t m v2 v3 j4 g4 hp
    exact hp.elim
  | succ fu ih =>
    intro t m v2 v3 j4 g4 hp
    unfold wp7_putStyleString_c2 at hp
    refine am_lf_eq ?_
    generalize am_lf (am_mk kb7_putStyleString 0 0 7) [2] = kt at ih ⊢
    refine am_cy (pre := pr2_length) (f := fm2_length) (a' := [.inr (.inl 0), .inl v2]) (wc := (kw_I m)) (w' := (kw_TI t m)) (r := (some (.inl (fn2_length m v2)), (kw_I m), 0, 0)) ?_ ?_ ?_ ?_ ?_ ?_ ?_ ?_ ?_ ?_
    · exact ks_TI_I_1_o t m
    · rfl
    · rfl
    · exact ks_TI_I_1_s t m
    · exact ⟨m, v2, rfl, rfl, hp.1⟩
    · exact fe2_length m v2
    · exact kwl_I m
    · rfl
    · exact ks_TI_I_1_m t m m
    refine am_if (c := (fn2_length m v2) ≤ v3) (fun h2 => ?_) (fun h2 => ?_)
    · have e : fn7_putStyleString_c2 (fu + 1) t m v2 v3 = t := by
        rw [fn7_putStyleString_c2]
        rw [if_pos h2]
      rw [e] <;> rfl
    · have q2 := hp.2.2 h2
      refine am_cy (pre := pr2_at) (f := fm2_at) (a' := [.inr (.inl 0), .inl v2, .inl v3]) (wc := (kw_I m)) (w' := (kw_TI t m)) (r := (some (.inl (fn2_at m v2 v3)), (kw_I m), 0, 0)) ?_ ?_ ?_ ?_ ?_ ?_ ?_ ?_ ?_ ?_
      · exact ks_TI_I_1_o t m
      · rfl
      · rfl
      · exact ks_TI_I_1_s t m
      · exact ⟨m, v2, v3, rfl, rfl, q2.1⟩
      · exact fe2_at m v2 v3
      · exact kwl_I m
      · rfl
      · exact ks_TI_I_1_m t m m
      refine am_cy (pre := pr7_staysInCode) (f := fm7_staysInCode) (a' := [.inl (fn2_at m v2 v3)]) (wc := []) (w' := (kw_TI t m)) (r := (some (.inl (fn7_staysInCode (fn2_at m v2 v3))), [], 0, 0)) ?_ ?_ ?_ ?_ ?_ ?_ ?_ ?_ ?_ ?_
      · exact am_sow0 _
      · rfl
      · rfl
      · exact am_sub0 _
      · exact ⟨(fn2_at m v2 v3), rfl, rfl, q2.2.1⟩
      · exact fe7_staysInCode (fn2_at m v2 v3)
      · exact rfl
      · rfl
      · exact am_mix0 _
      refine am_if (c := (fn7_staysInCode (fn2_at m v2 v3)) = 0) (fun h3 => ?_) (fun h3 => ?_)
      · have q3 := q2.2.2.1 h3
        refine am_cy (pre := pr6_put) (f := fm6_put) (a' := [.inr (.inl 0), .inl (92 : Int32)]) (wc := (kw_T 1000 t)) (w' := (kw_TI ((fn6_put 1000 t (92 : Int32)).2) m)) (r := (some (.inl ((fn6_put 1000 t (92 : Int32)).1)), (kw_T 1000 ((fn6_put 1000 t (92 : Int32)).2)), 0, 0)) ?_ ?_ ?_ ?_ ?_ ?_ ?_ ?_ ?_ ?_
        · exact ks_TI_T_0_o t m
        · rfl
        · rfl
        · exact ks_TI_T_0_s t m
        · exact ⟨1000, t, (92 : Int32), rfl, rfl, q3.1⟩
        · exact fe6_put 1000 t (92 : Int32)
        · exact kwl_T 1000 ((fn6_put 1000 t (92 : Int32)).2)
        · rfl
        · exact ks_TI_T_0_m t m ((fn6_put 1000 t (92 : Int32)).2)
        refine am_cy (pre := pr6_putHex) (f := fm6_putHex) (a' := [.inr (.inl 0), .inl (fn2_at m v2 v3)]) (wc := (kw_T 1000 ((fn6_put 1000 t (92 : Int32)).2))) (w' := (kw_TI (fn6_putHex 1000 ((fn6_put 1000 t (92 : Int32)).2) (fn2_at m v2 v3)) m)) (r := (none, (kw_T 1000 (fn6_putHex 1000 ((fn6_put 1000 t (92 : Int32)).2) (fn2_at m v2 v3))), 0, 0)) ?_ ?_ ?_ ?_ ?_ ?_ ?_ ?_ ?_ ?_
        · exact ks_TI_T_0_o ((fn6_put 1000 t (92 : Int32)).2) m
        · rfl
        · rfl
        · exact ks_TI_T_0_s ((fn6_put 1000 t (92 : Int32)).2) m
        · exact ⟨1000, (fn6_put 1000 t (92 : Int32)).2, (fn2_at m v2 v3), rfl, rfl, q3.2.1⟩
        · exact fe6_putHex 1000 ((fn6_put 1000 t (92 : Int32)).2) (fn2_at m v2 v3)
        · exact kwl_T 1000 (fn6_putHex 1000 ((fn6_put 1000 t (92 : Int32)).2) (fn2_at m v2 v3))
        · rfl
        · exact ks_TI_T_0_m ((fn6_put 1000 t (92 : Int32)).2) m (fn6_putHex 1000 ((fn6_put 1000 t (92 : Int32)).2) (fn2_at m v2 v3))
        refine am_cy (pre := pr6_put) (f := fm6_put) (a' := [.inr (.inl 0), .inl (32 : Int32)]) (wc := (kw_T 1000 (fn6_putHex 1000 ((fn6_put 1000 t (92 : Int32)).2) (fn2_at m v2 v3)))) (w' := (kw_TI ((fn6_put 1000 (fn6_putHex 1000 ((fn6_put 1000 t (92 : Int32)).2) (fn2_at m v2 v3)) (32 : Int32)).2) m)) (r := (some (.inl ((fn6_put 1000 (fn6_putHex 1000 ((fn6_put 1000 t (92 : Int32)).2) (fn2_at m v2 v3)) (32 : Int32)).1)), (kw_T 1000 ((fn6_put 1000 (fn6_putHex 1000 ((fn6_put 1000 t (92 : Int32)).2) (fn2_at m v2 v3)) (32 : Int32)).2)), 0, 0)) ?_ ?_ ?_ ?_ ?_ ?_ ?_ ?_ ?_ ?_
        · exact ks_TI_T_0_o (fn6_putHex 1000 ((fn6_put 1000 t (92 : Int32)).2) (fn2_at m v2 v3)) m
        · rfl
        · rfl
        · exact ks_TI_T_0_s (fn6_putHex 1000 ((fn6_put 1000 t (92 : Int32)).2) (fn2_at m v2 v3)) m
        · exact ⟨1000, (fn6_putHex 1000 ((fn6_put 1000 t (92 : Int32)).2) (fn2_at m v2 v3)), (32 : Int32), rfl, rfl, q3.2.2.1⟩
        · exact fe6_put 1000 (fn6_putHex 1000 ((fn6_put 1000 t (92 : Int32)).2) (fn2_at m v2 v3)) (32 : Int32)
        · exact kwl_T 1000 ((fn6_put 1000 (fn6_putHex 1000 ((fn6_put 1000 t (92 : Int32)).2) (fn2_at m v2 v3)) (32 : Int32)).2)
        · rfl
        · exact ks_TI_T_0_m (fn6_putHex 1000 ((fn6_put 1000 t (92 : Int32)).2) (fn2_at m v2 v3)) m ((fn6_put 1000 (fn6_putHex 1000 ((fn6_put 1000 t (92 : Int32)).2) (fn2_at m v2 v3)) (32 : Int32)).2)
        have e : fn7_putStyleString_c2 (fu + 1) t m v2 v3 = fn7_putStyleString_c2 fu ((fn6_put 1000 (fn6_putHex 1000 ((fn6_put 1000 t (92 : Int32)).2) (fn2_at m v2 v3)) (32 : Int32)).2) m v2 (v3 + (1 : Int32)) := by
          rw [fn7_putStyleString_c2]
          rw [if_neg h2, if_pos h3]
        rw [e]
        exact ih ((fn6_put 1000 (fn6_putHex 1000 ((fn6_put 1000 t (92 : Int32)).2) (fn2_at m v2 v3)) (32 : Int32)).2) m v2 (v3 + (1 : Int32)) _ rfl q3.2.2.2
      · have q3 := q2.2.2.2 h3
        refine am_cy (pre := pr6_put) (f := fm6_put) (a' := [.inr (.inl 0), .inl (fn2_at m v2 v3)]) (wc := (kw_T 1000 t)) (w' := (kw_TI ((fn6_put 1000 t (fn2_at m v2 v3)).2) m)) (r := (some (.inl ((fn6_put 1000 t (fn2_at m v2 v3)).1)), (kw_T 1000 ((fn6_put 1000 t (fn2_at m v2 v3)).2)), 0, 0)) ?_ ?_ ?_ ?_ ?_ ?_ ?_ ?_ ?_ ?_
        · exact ks_TI_T_0_o t m
        · rfl
        · rfl
        · exact ks_TI_T_0_s t m
        · exact ⟨1000, t, (fn2_at m v2 v3), rfl, rfl, q3.1⟩
        · exact fe6_put 1000 t (fn2_at m v2 v3)
        · exact kwl_T 1000 ((fn6_put 1000 t (fn2_at m v2 v3)).2)
        · rfl
        · exact ks_TI_T_0_m t m ((fn6_put 1000 t (fn2_at m v2 v3)).2)
        have e : fn7_putStyleString_c2 (fu + 1) t m v2 v3 = fn7_putStyleString_c2 fu ((fn6_put 1000 t (fn2_at m v2 v3)).2) m v2 (v3 + (1 : Int32)) := by
          rw [fn7_putStyleString_c2]
          rw [if_neg h2, if_neg h3]
        rw [e]
        exact ih ((fn6_put 1000 t (fn2_at m v2 v3)).2) m v2 (v3 + (1 : Int32)) _ rfl q3.2
noncomputable def fn7_putStyleString (t : qt6) (m : qt2) (p2 : Int32) : qt6 := Classical.choose (⟨_, rfl⟩ : ∃ z : qt6, z = (fn7_putStyleString_c2 hg_fu t m p2 (0 : Int32)))
theorem fq7_putStyleString (t : qt6) (m : qt2) (p2 : Int32) : fn7_putStyleString t m p2 = (fn7_putStyleString_c2 hg_fu t m p2 (0 : Int32)) := Classical.choose_spec (⟨_, rfl⟩ : ∃ z : qt6, z = (fn7_putStyleString_c2 hg_fu t m p2 (0 : Int32)))
def wp7_putStyleString (t : qt6) (m : qt2) (p2 : Int32) : Prop := (wp7_putStyleString_c2 hg_fu t m p2 (0 : Int32))
set_option maxRecDepth 100000 in
set_option maxHeartbeats 4000000 in
theorem re7_putStyleString (t : qt6) (m : qt2) (p2 : Int32) (hp : wp7_putStyleString t m p2) : am_lf (am_mk kb7_putStyleString 0 0 7) [2] (0, am_L0 [.inr (.inl 0), .inr (.inl 2), .inl p2] 5, [], (kw_TI t m), 0, 0) = some (none, (kw_TI (fn7_putStyleString t m p2) m)) := by
  unfold wp7_putStyleString at hp
  have i2 := @rc7_putStyleString_2
  refine am_lf_eq ?_
  generalize am_lf (am_mk kb7_putStyleString 0 0 7) [2] = kt at i2 ⊢
  have e : fn7_putStyleString t m p2 = fn7_putStyleString_c2 hg_fu t m p2 (0 : Int32) := by
    rw [fq7_putStyleString]
  rw [e]
  exact i2 hg_fu t m p2 (0 : Int32) _ rfl hp
abbrev pr7_putStyleString : List am_V → List am_C → Prop := fun a w => ∃ (t : qt6) (m : qt2) (p2 : Int32), a = [.inr (.inl 0), .inr (.inl 2), .inl p2] ∧ w = (kw_TI t m) ∧ wp7_putStyleString t m p2
noncomputable def fm7_putStyleString : am_M := fun a w => (fun (z : qt6) => (none, (kw_TI z (qs2 w 2)), 0, 0)) (fn7_putStyleString (qs6 w 0) (qs2 w 2) (am_i (am_an a 2)))
theorem fe7_putStyleString (t : qt6) (m : qt2) (p2 : Int32) : fm7_putStyleString [.inr (.inl 0), .inr (.inl 2), .inl p2] (kw_TI t m) = (none, (kw_TI (fn7_putStyleString t m p2) m), 0, 0) := rfl
set_option maxRecDepth 100000 in
set_option maxHeartbeats 4000000 in
theorem rn7_putStyleString : ∀ (a : List am_V) (w : List am_C), pr7_putStyleString a w → ∃ nq, am_ev (am_mk kb7_putStyleString (fm7_putStyleString a w).2.2.1 (fm7_putStyleString a w).2.2.2 w.length) [2] nq (0, am_L0 a 5, [], w, 0, 0) = some ((fm7_putStyleString a w).1, (fm7_putStyleString a w).2.1) := by
  rintro a w ⟨t, m, p2, rfl, rfl, hp⟩
  rw [fe7_putStyleString t m p2]
  exact am_lf_ev (re7_putStyleString t m p2 hp)
theorem rl7_putStyleString : ∀ (a : List am_V) (w : List am_C), pr7_putStyleString a w → a.length ≤ 5 := by
  rintro a w ⟨t, m, p2, rfl, rfl, hp⟩
  exact Nat.le_of_ble_eq_true rfl
set_option maxRecDepth 100000 in
set_option maxHeartbeats 4000000 in
theorem km7_putStyleString {l : Launch} {E : (Nat → Prop) → State → Prop} {D : va_G} {ou : Nat → Nat} {ca : Nat → ClassId} (hE : hg_E E ou) : hg_Met l E D ou ca hy7_putStyleString prog_9_method_8_code 5 none 6 pr7_putStyleString fm7_putStyleString := by
  refine am_met (B := kb7_putStyleString) (cuts := [2]) (nt := 5) (by decide +kernel) rfl rfl (hg_tys_ok ca) ?_ (by decide) rl7_putStyleString ?_ rn7_putStyleString
  · exact fun t ht => List.mem_cons_of_mem _ (hg_arr t ht)
  · intro a w hp ad p e R s m args below meth c hR X hEs hnm
    have hR1 : 6 ≤ R.frames ∧ 240 ≤ R.locals := by rw [hR]; exact ⟨Nat.le_refl _, Nat.le_refl _⟩
    have hN := hE.2.1 _ _ hEs
    refine ⟨kd7_putStyleString_ok, fun index ci fi mode hq => kf7_ok X.2.2.2.2.1 hN.1 (index, ci, fi, mode) (am_as_mem hq), fun index ci fs hq => (am_no hq).elim, fun x v hq => (am_no hq).elim, ?_, fun o t n f hq => (am_no hq).elim, rfl, rfl, by rw [hR]; exact Nat.le_refl _, by rw [hR]; exact Nat.le_refl _⟩
    intro pc sel n0 pre0 f0 hq
    have hz : ∀ q ∈ ki7_putStyleString, am_CK p l e R s m args below meth c D hn_cl (va_A (am_w ad ou ca w) s.heap.size) ou ca 5 q.1 q.2.2.1 q.2.2.2.1 q.2.2.2.2 := by
      refine am_allc (am_ck_V (n := 1) X hEs hE.1 (km2_length hE) (hg_good (gw_mem 805 (by decide +kernel))) rfl (List.mem_cons_of_mem _ (gw_mem 71 (by decide +kernel))) (List.mem_cons_of_mem _ (gw_mem 802 (by decide +kernel))) (List.mem_cons_of_mem _ (gw_mem 803 (by decide +kernel))) (List.mem_cons_of_mem _ (gw_mem 804 (by decide +kernel))) pa2_length (by decide +kernel) ⟨Nat.le_trans (by decide) hR1.1, Nat.le_trans (by decide) hR1.2⟩ (kd7_putStyleString_ok (5, .invokevirtual 41, 3) (List.mem_of_getElem? (i := 5) rfl))) (am_allc (am_ck_V (n := 2) X hEs hE.1 (km2_at hE) (hg_good (gw_mem 809 (by decide +kernel))) rfl (List.mem_cons_of_mem _ (gw_mem 71 (by decide +kernel))) (List.mem_cons_of_mem _ (gw_mem 806 (by decide +kernel))) (List.mem_cons_of_mem _ (gw_mem 807 (by decide +kernel))) (List.mem_cons_of_mem _ (gw_mem 808 (by decide +kernel))) pa2_at (by decide +kernel) ⟨Nat.le_trans (by decide) hR1.1, Nat.le_trans (by decide) hR1.2⟩ (kd7_putStyleString_ok (14, .invokevirtual 47, 3) (List.mem_of_getElem? (i := 10) rfl))) (am_allc (am_ck_S (n := 1) X hEs hE.1 (km7_staysInCode hE) (hg_good (gw_mem 923 (by decide +kernel))) rfl (List.mem_cons_of_mem _ (gw_mem 90 (by decide +kernel))) (List.mem_cons_of_mem _ (gw_mem 921 (by decide +kernel))) (List.mem_cons_of_mem _ (gw_mem 922 (by decide +kernel))) (by decide +kernel) ⟨Nat.le_trans (by decide) hR1.1, Nat.le_trans (by decide) hR1.2⟩ (kd7_putStyleString_ok (21, .invokestatic 101, 3) (List.mem_of_getElem? (i := 13) rfl))) (am_allc (am_ck_V (n := 1) X hEs hE.1 (km6_put hE) (hg_good (gw_mem 290 (by decide +kernel))) rfl (List.mem_cons_of_mem _ (gw_mem 69 (by decide +kernel))) (List.mem_cons_of_mem _ (gw_mem 822 (by decide +kernel))) (List.mem_cons_of_mem _ (gw_mem 288 (by decide +kernel))) (List.mem_cons_of_mem _ (gw_mem 289 (by decide +kernel))) pa6_put (by decide +kernel) ⟨Nat.le_trans (by decide) hR1.1, Nat.le_trans (by decide) hR1.2⟩ (kd7_putStyleString_ok (30, .invokevirtual 61, 3) (List.mem_of_getElem? (i := 17) rfl))) (am_allc (am_ck_V (n := 1) X hEs hE.1 (km6_put hE) (hg_good (gw_mem 290 (by decide +kernel))) rfl (List.mem_cons_of_mem _ (gw_mem 69 (by decide +kernel))) (List.mem_cons_of_mem _ (gw_mem 822 (by decide +kernel))) (List.mem_cons_of_mem _ (gw_mem 288 (by decide +kernel))) (List.mem_cons_of_mem _ (gw_mem 289 (by decide +kernel))) pa6_put (by decide +kernel) ⟨Nat.le_trans (by decide) hR1.1, Nat.le_trans (by decide) hR1.2⟩ (kd7_putStyleString_ok (40, .invokevirtual 61, 3) (List.mem_of_getElem? (i := 22) rfl))) (am_allc (am_ck_V (n := 1) X hEs hE.1 (km6_putHex hE) (hg_good (gw_mem 907 (by decide +kernel))) rfl (List.mem_cons_of_mem _ (gw_mem 69 (by decide +kernel))) (List.mem_cons_of_mem _ (gw_mem 904 (by decide +kernel))) (List.mem_cons_of_mem _ (gw_mem 905 (by decide +kernel))) (List.mem_cons_of_mem _ (gw_mem 906 (by decide +kernel))) pa6_putHex (by decide +kernel) ⟨Nat.le_trans (by decide) hR1.1, Nat.le_trans (by decide) hR1.2⟩ (kd7_putStyleString_ok (47, .invokevirtual 79, 3) (List.mem_of_getElem? (i := 26) rfl))) (am_allc (am_ck_V (n := 1) X hEs hE.1 (km6_put hE) (hg_good (gw_mem 290 (by decide +kernel))) rfl (List.mem_cons_of_mem _ (gw_mem 69 (by decide +kernel))) (List.mem_cons_of_mem _ (gw_mem 822 (by decide +kernel))) (List.mem_cons_of_mem _ (gw_mem 288 (by decide +kernel))) (List.mem_cons_of_mem _ (gw_mem 289 (by decide +kernel))) pa6_put (by decide +kernel) ⟨Nat.le_trans (by decide) hR1.1, Nat.le_trans (by decide) hR1.2⟩ (kd7_putStyleString_ok (53, .invokevirtual 61, 3) (List.mem_of_getElem? (i := 29) rfl))) (am_all0)))))))
    exact hz _ (am_as_mem hq)
noncomputable def ki7_put : List (Nat × Option (List Nat) × Nat × (List am_V → List am_C → Prop) × am_M) := [(26, none, 3, pr7_putMarkup, fm7_putMarkup), (39, some [2, 3, 4, 5, 6], 2, pr7_hasForeignScheme, fm7_hasForeignScheme), (48, some [0, 1], 2, pr6_putAll, fm6_putAll), (66, none, 4, pr7_putUrl, fm7_putUrl), (88, none, 5, pr7_putScript, fm7_putScript), (102, none, 3, pr7_putBareStyle, fm7_putBareStyle), (111, none, 3, pr7_putStyleString, fm7_putStyleString)]
def kc7_put : List (Nat × am_V) := [(19, .inr (.inr (26 + 1)))]
noncomputable def kb7_put : am_B := (kd7_put, am_as kf7, hn_ty, fun _ => none, am_as kc7_put, am_as ki7_put, fun _ => none, 5, 6, none)
noncomputable def fn7_put_c54 (t : qt6) (m : qt2) (v2 : Int32) (v3 : Int32) (v4 : Int32) (v5 : Int32) : qt6 := (if (8 : Int32) ≤ v3 then (if (v3 &&& (12 : Int32)) = (8 : Int32) then (fn7_putScript t m v2 v4 v5) else (if v4 = 0 then (fn7_putBareStyle t m v2) else (fn7_putStyleString t m v2))) else (fn7_putUrl t m v2 (v3 - (2 : Int32))))
def wp7_put_c54 (t : qt6) (m : qt2) (v2 : Int32) (v3 : Int32) (v4 : Int32) (v5 : Int32) : Prop := (((8 : Int32) ≤ v3 → (((v3 &&& (12 : Int32)) = (8 : Int32) → (wp7_putScript t m v2 v4 v5)) ∧ (¬ (v3 &&& (12 : Int32)) = (8 : Int32) → ((v4 = 0 → (wp7_putBareStyle t m v2)) ∧ (¬ v4 = 0 → (wp7_putStyleString t m v2)))))) ∧ (¬ (8 : Int32) ≤ v3 → (wp7_putUrl t m v2 (v3 - (2 : Int32)))))
set_option maxRecDepth 100000 in
set_option maxHeartbeats 4000000 in
theorem rc7_put_54 (t : qt6) (m : qt2) (v2 : Int32) (v3 : Int32) (v4 : Int32) (v5 : Int32) (hp : wp7_put_c54 t m v2 v3 v4 v5) : am_lf (am_mk kb7_put 0 0 7) [16, 54] (54, [some (.inr (.inl 0)), some (.inr (.inl 2)), some (.inl v2), some (.inl v3), some (.inl v4), some (.inl v5)], [], (kw_TI t m), 0, 0) = some (none, (kw_TI (fn7_put_c54 t m v2 v3 v4 v5) m)) := by
  unfold wp7_put_c54 at hp
  refine am_lf_eq ?_
  generalize am_lf (am_mk kb7_put 0 0 7) [16, 54] = kt
  refine am_if (c := (8 : Int32) ≤ v3) (fun h1 => ?_) (fun h1 => ?_)
  · have q1 := hp.1 h1
    refine am_if (c := (v3 &&& (12 : Int32)) = (8 : Int32)) (fun h2 => ?_) (fun h2 => ?_)
    · have q2 := q1.1 h2
      refine am_cx (pre := pr7_putScript) (f := fm7_putScript) (r := (none, (kw_TI (fn7_putScript t m v2 v4 v5) m), 0, 0)) ?_ ?_ ?_ ?_
      · exact ⟨t, m, v2, v4, v5, rfl, rfl, q2⟩
      · exact fe7_putScript t m v2 v4 v5
      · exact rfl
      have e : fn7_put_c54 t m v2 v3 v4 v5 = (fn7_putScript t m v2 v4 v5) := by
        rw [fn7_put_c54]
        rw [if_pos h1, if_pos h2]
      rw [e] <;> rfl
    · have q2 := q1.2 h2
      refine am_if (c := v4 = 0) (fun h3 => ?_) (fun h3 => ?_)
      · have q3 := q2.1 h3
        refine am_cx (pre := pr7_putBareStyle) (f := fm7_putBareStyle) (r := (none, (kw_TI (fn7_putBareStyle t m v2) m), 0, 0)) ?_ ?_ ?_ ?_
        · exact ⟨t, m, v2, rfl, rfl, q3⟩
        · exact fe7_putBareStyle t m v2
        · exact rfl
        have e : fn7_put_c54 t m v2 v3 v4 v5 = (fn7_putBareStyle t m v2) := by
          rw [fn7_put_c54]
          rw [if_pos h1, if_neg h2, if_pos h3]
        rw [e] <;> rfl
      · have q3 := q2.2 h3
        refine am_cx (pre := pr7_putStyleString) (f := fm7_putStyleString) (r := (none, (kw_TI (fn7_putStyleString t m v2) m), 0, 0)) ?_ ?_ ?_ ?_
        · exact ⟨t, m, v2, rfl, rfl, q3⟩
        · exact fe7_putStyleString t m v2
        · exact rfl
        have e : fn7_put_c54 t m v2 v3 v4 v5 = (fn7_putStyleString t m v2) := by
          rw [fn7_put_c54]
          rw [if_pos h1, if_neg h2, if_neg h3]
        rw [e] <;> rfl
  · have q1 := hp.2 h1
    refine am_cx (pre := pr7_putUrl) (f := fm7_putUrl) (r := (none, (kw_TI (fn7_putUrl t m v2 (v3 - (2 : Int32))) m), 0, 0)) ?_ ?_ ?_ ?_
    · exact ⟨t, m, v2, (v3 - (2 : Int32)), rfl, rfl, q1⟩
    · exact fe7_putUrl t m v2 (v3 - (2 : Int32))
    · exact rfl
    have e : fn7_put_c54 t m v2 v3 v4 v5 = (fn7_putUrl t m v2 (v3 - (2 : Int32))) := by
      rw [fn7_put_c54]
      rw [if_neg h1]
    rw [e] <;> rfl
noncomputable def fn7_put_c16 (t : qt6) (m : qt2) (v2 : Int32) (v3 : Int32) (v4 : Int32) (u0 : Int32) : qt6 := (if (2 : Int32) ≤ v3 then (if v3 = (2 : Int32) then (if (fn7_hasForeignScheme m v2) = 0 then (fn7_put_c54 t m v2 v3 v4 u0) else (fn6_putAll 1000 t 26)) else (fn7_put_c54 t m v2 v3 v4 u0)) else (fn7_putMarkup t m v2))
def wp7_put_c16 (t : qt6) (m : qt2) (v2 : Int32) (v3 : Int32) (v4 : Int32) (u0 : Int32) : Prop := (((2 : Int32) ≤ v3 → ((v3 = (2 : Int32) → ((wp7_hasForeignScheme m v2) ∧ (((fn7_hasForeignScheme m v2) = 0 → (wp7_put_c54 t m v2 v3 v4 u0)) ∧ (¬ (fn7_hasForeignScheme m v2) = 0 → (wp6_putAll 1000 t 26))))) ∧ (¬ v3 = (2 : Int32) → (wp7_put_c54 t m v2 v3 v4 u0)))) ∧ (¬ (2 : Int32) ≤ v3 → (wp7_putMarkup t m v2)))
set_option maxRecDepth 100000 in
set_option maxHeartbeats 4000000 in
theorem rc7_put_16 (t : qt6) (m : qt2) (v2 : Int32) (v3 : Int32) (v4 : Int32) (u0 : Int32) (j5 : Option am_V) (g5 : am_loO 7 j5 = true) (hp : wp7_put_c16 t m v2 v3 v4 u0) : am_lf (am_mk kb7_put 0 0 7) [16, 54] (16, [some (.inr (.inl 0)), some (.inr (.inl 2)), some (.inl v2), some (.inl v3), some (.inl v4), j5], [.inl u0], (kw_TI t m), 0, 0) = some (none, (kw_TI (fn7_put_c16 t m v2 v3 v4 u0) m)) := by
  unfold wp7_put_c16 at hp
  have i54 := @rc7_put_54
  refine am_lf_eq ?_
  generalize am_lf (am_mk kb7_put 0 0 7) [16, 54] = kt at i54 ⊢
  refine am_if (c := (2 : Int32) ≤ v3) (fun h1 => ?_) (fun h1 => ?_)
  · have q1 := hp.1 h1
    refine am_if (c := v3 = (2 : Int32)) (fun h2 => ?_) (fun h2 => ?_)
    · have q2 := q1.1 h2
      refine am_cy (pre := pr7_hasForeignScheme) (f := fm7_hasForeignScheme) (a' := [.inr (.inl 0), .inl v2]) (wc := (kw_I m)) (w' := (kw_TI t m)) (r := (some (.inl (fn7_hasForeignScheme m v2)), (kw_I m), 0, 0)) ?_ ?_ ?_ ?_ ?_ ?_ ?_ ?_ ?_ ?_
      · exact ks_TI_I_1_o t m
      · rfl
      · rfl
      · exact ks_TI_I_1_s t m
      · exact ⟨m, v2, rfl, rfl, q2.1⟩
      · exact fe7_hasForeignScheme m v2
      · exact kwl_I m
      · rfl
      · exact ks_TI_I_1_m t m m
      refine am_if (c := (fn7_hasForeignScheme m v2) = 0) (fun h3 => ?_) (fun h3 => ?_)
      · have q3 := q2.2.1 h3
        have e : fn7_put_c16 t m v2 v3 v4 u0 = fn7_put_c54 t m v2 v3 v4 u0 := by
          rw [fn7_put_c16]
          rw [if_pos h1, if_pos h2, if_pos h3]
        rw [e]
        exact i54 t m v2 v3 v4 u0  q3
      · have q3 := q2.2.2 h3
        refine am_cy (pre := pr6_putAll) (f := fm6_putAll) (a' := [.inr (.inl 0), .inr (.inr (26 + 1))]) (wc := (kw_T 1000 t)) (w' := (kw_TI (fn6_putAll 1000 t 26) m)) (r := (none, (kw_T 1000 (fn6_putAll 1000 t 26)), 0, 0)) ?_ ?_ ?_ ?_ ?_ ?_ ?_ ?_ ?_ ?_
        · exact ks_TI_T_0_o t m
        · rfl
        · rfl
        · exact ks_TI_T_0_s t m
        · exact ⟨1000, t, 26, rfl, rfl, q3⟩
        · exact fe6_putAll 1000 t 26
        · exact kwl_T 1000 (fn6_putAll 1000 t 26)
        · rfl
        · exact ks_TI_T_0_m t m (fn6_putAll 1000 t 26)
        have e : fn7_put_c16 t m v2 v3 v4 u0 = (fn6_putAll 1000 t 26) := by
          rw [fn7_put_c16]
          rw [if_pos h1, if_pos h2, if_neg h3]
        rw [e] <;> rfl
    · have q2 := q1.2 h2
      have e : fn7_put_c16 t m v2 v3 v4 u0 = fn7_put_c54 t m v2 v3 v4 u0 := by
        rw [fn7_put_c16]
        rw [if_pos h1, if_neg h2]
      rw [e]
      exact i54 t m v2 v3 v4 u0  q2
  · have q1 := hp.2 h1
    refine am_cx (pre := pr7_putMarkup) (f := fm7_putMarkup) (r := (none, (kw_TI (fn7_putMarkup t m v2) m), 0, 0)) ?_ ?_ ?_ ?_
    · exact ⟨t, m, v2, rfl, rfl, q1⟩
    · exact fe7_putMarkup t m v2
    · exact rfl
    have e : fn7_put_c16 t m v2 v3 v4 u0 = (fn7_putMarkup t m v2) := by
      rw [fn7_put_c16]
      rw [if_neg h1]
    rw [e] <;> rfl
noncomputable def fn7_put (t : qt6) (m : qt2) (p2 : Int32) (p3 : Int32) : qt6 := Classical.choose (⟨_, rfl⟩ : ∃ z : qt6, z = (if p3 < (16 : Int32) then (fn7_put_c16 t m p2 p3 (p3 &&& (3 : Int32)) (0 : Int32)) else (fn7_put_c16 t m p2 p3 (p3 &&& (3 : Int32)) (1 : Int32))))
theorem fq7_put (t : qt6) (m : qt2) (p2 : Int32) (p3 : Int32) : fn7_put t m p2 p3 = (if p3 < (16 : Int32) then (fn7_put_c16 t m p2 p3 (p3 &&& (3 : Int32)) (0 : Int32)) else (fn7_put_c16 t m p2 p3 (p3 &&& (3 : Int32)) (1 : Int32))) := Classical.choose_spec (⟨_, rfl⟩ : ∃ z : qt6, z = (if p3 < (16 : Int32) then (fn7_put_c16 t m p2 p3 (p3 &&& (3 : Int32)) (0 : Int32)) else (fn7_put_c16 t m p2 p3 (p3 &&& (3 : Int32)) (1 : Int32))))
def wp7_put (t : qt6) (m : qt2) (p2 : Int32) (p3 : Int32) : Prop := ((p3 < (16 : Int32) → (wp7_put_c16 t m p2 p3 (p3 &&& (3 : Int32)) (0 : Int32))) ∧ (¬ p3 < (16 : Int32) → (wp7_put_c16 t m p2 p3 (p3 &&& (3 : Int32)) (1 : Int32))))
set_option maxRecDepth 100000 in
set_option maxHeartbeats 4000000 in
theorem re7_put (t : qt6) (m : qt2) (p2 : Int32) (p3 : Int32) (hp : wp7_put t m p2 p3) : am_lf (am_mk kb7_put 0 0 7) [16, 54] (0, am_L0 [.inr (.inl 0), .inr (.inl 2), .inl p2, .inl p3] 6, [], (kw_TI t m), 0, 0) = some (none, (kw_TI (fn7_put t m p2 p3) m)) := by
  unfold wp7_put at hp
  have i16 := @rc7_put_16
  refine am_lf_eq ?_
  generalize am_lf (am_mk kb7_put 0 0 7) [16, 54] = kt at i16 ⊢
  refine am_if (c := p3 < (16 : Int32)) (fun h1 => ?_) (fun h1 => ?_)
  · have q1 := hp.1 h1
    have e : fn7_put t m p2 p3 = fn7_put_c16 t m p2 p3 (p3 &&& (3 : Int32)) (0 : Int32) := by
      rw [fq7_put]
      rw [if_pos h1]
    rw [e]
    exact i16 t m p2 p3 (p3 &&& (3 : Int32)) (0 : Int32) _ rfl q1
  · have q1 := hp.2 h1
    have e : fn7_put t m p2 p3 = fn7_put_c16 t m p2 p3 (p3 &&& (3 : Int32)) (1 : Int32) := by
      rw [fq7_put]
      rw [if_neg h1]
    rw [e]
    exact i16 t m p2 p3 (p3 &&& (3 : Int32)) (1 : Int32) _ rfl q1
abbrev pr7_put : List am_V → List am_C → Prop := fun a w => ∃ (t : qt6) (m : qt2) (p2 : Int32) (p3 : Int32), a = [.inr (.inl 0), .inr (.inl 2), .inl p2, .inl p3] ∧ w = (kw_TI t m) ∧ wp7_put t m p2 p3
noncomputable def fm7_put : am_M := fun a w => (fun (z : qt6) => (none, (kw_TI z (qs2 w 2)), 0, 0)) (fn7_put (qs6 w 0) (qs2 w 2) (am_i (am_an a 2)) (am_i (am_an a 3)))
theorem fe7_put (t : qt6) (m : qt2) (p2 : Int32) (p3 : Int32) : fm7_put [.inr (.inl 0), .inr (.inl 2), .inl p2, .inl p3] (kw_TI t m) = (none, (kw_TI (fn7_put t m p2 p3) m), 0, 0) := rfl
set_option maxRecDepth 100000 in
set_option maxHeartbeats 4000000 in
theorem rn7_put : ∀ (a : List am_V) (w : List am_C), pr7_put a w → ∃ nq, am_ev (am_mk kb7_put (fm7_put a w).2.2.1 (fm7_put a w).2.2.2 w.length) [16, 54] nq (0, am_L0 a 6, [], w, 0, 0) = some ((fm7_put a w).1, (fm7_put a w).2.1) := by
  rintro a w ⟨t, m, p2, p3, rfl, rfl, hp⟩
  rw [fe7_put t m p2 p3]
  exact am_lf_ev (re7_put t m p2 p3 hp)
theorem rl7_put : ∀ (a : List am_V) (w : List am_C), pr7_put a w → a.length ≤ 6 := by
  rintro a w ⟨t, m, p2, p3, rfl, rfl, hp⟩
  exact Nat.le_of_ble_eq_true rfl
set_option maxRecDepth 100000 in
set_option maxHeartbeats 4000000 in
theorem km7_put {l : Launch} {E : (Nat → Prop) → State → Prop} {D : va_G} {ou : Nat → Nat} {ca : Nat → ClassId} (hE : hg_E E ou) : hg_Met l E D ou ca hy7_put prog_9_method_2_code 6 none 7 pr7_put fm7_put := by
  refine am_met (B := kb7_put) (cuts := [16, 54]) (nt := 5) (by decide +kernel) rfl rfl (hg_tys_ok ca) ?_ (by decide) rl7_put ?_ rn7_put
  · exact fun t ht => List.mem_cons_of_mem _ (hg_arr t ht)
  · intro a w hp ad p e R s m args below meth c hR X hEs hnm
    have hR1 : 7 ≤ R.frames ∧ 280 ≤ R.locals := by rw [hR]; exact ⟨Nat.le_refl _, Nat.le_refl _⟩
    have hN := hE.2.1 _ _ hEs
    have hc : ∀ q ∈ kc7_put, am_LK s hn_R7 args ou q.1 q.2 := am_allc (hg_lk hN.2 26 rfl) (am_all0)
    refine ⟨kd7_put_ok, fun index ci fi mode hq => kf7_ok X.2.2.2.2.1 hN.1 (index, ci, fi, mode) (am_as_mem hq), fun index ci fs hq => (am_no hq).elim, fun x v hq => hc (x, v) (am_as_mem hq), ?_, fun o t n f hq => (am_no hq).elim, rfl, rfl, by rw [hR]; exact Nat.le_refl _, by rw [hR]; exact Nat.le_refl _⟩
    intro pc sel n0 pre0 f0 hq
    have hz : ∀ q ∈ ki7_put, am_CK p l e R s m args below meth c D hn_cl (va_A (am_w ad ou ca w) s.heap.size) ou ca 6 q.1 q.2.2.1 q.2.2.2.1 q.2.2.2.2 := by
      refine am_allc (am_ck_S (n := 3) X hEs hE.1 (km7_putMarkup hE) (hg_good (gw_mem 801 (by decide +kernel))) rfl (List.mem_cons_of_mem _ (gw_mem 90 (by decide +kernel))) (List.mem_cons_of_mem _ (gw_mem 799 (by decide +kernel))) (List.mem_cons_of_mem _ (gw_mem 800 (by decide +kernel))) (by decide +kernel) ⟨Nat.le_trans (by decide) hR1.1, Nat.le_trans (by decide) hR1.2⟩ (kd7_put_ok (26, .invokestatic 9, 3) (List.mem_of_getElem? (i := 17) rfl))) (am_allc (am_ck_S (n := 2) X hEs hE.1 (km7_hasForeignScheme hE) (hg_good (gw_mem 825 (by decide +kernel))) rfl (List.mem_cons_of_mem _ (gw_mem 90 (by decide +kernel))) (List.mem_cons_of_mem _ (gw_mem 823 (by decide +kernel))) (List.mem_cons_of_mem _ (gw_mem 824 (by decide +kernel))) (by decide +kernel) ⟨Nat.le_trans (by decide) hR1.1, Nat.le_trans (by decide) hR1.2⟩ (kd7_put_ok (39, .invokestatic 15, 3) (List.mem_of_getElem? (i := 24) rfl))) (am_allc (am_ck_V (n := 1) X hEs hE.1 (km6_putAll hE) (hg_good (gw_mem 814 (by decide +kernel))) rfl (List.mem_cons_of_mem _ (gw_mem 69 (by decide +kernel))) (List.mem_cons_of_mem _ (gw_mem 811 (by decide +kernel))) (List.mem_cons_of_mem _ (gw_mem 812 (by decide +kernel))) (List.mem_cons_of_mem _ (gw_mem 813 (by decide +kernel))) pa6_putAll (by decide +kernel) ⟨Nat.le_trans (by decide) hR1.1, Nat.le_trans (by decide) hR1.2⟩ (kd7_put_ok (48, .invokevirtual 21, 3) (List.mem_of_getElem? (i := 28) rfl))) (am_allc (am_ck_S (n := 4) X hEs hE.1 (km7_putUrl hE) (hg_good (gw_mem 900 (by decide +kernel))) rfl (List.mem_cons_of_mem _ (gw_mem 90 (by decide +kernel))) (List.mem_cons_of_mem _ (gw_mem 898 (by decide +kernel))) (List.mem_cons_of_mem _ (gw_mem 899 (by decide +kernel))) (by decide +kernel) ⟨Nat.le_trans (by decide) hR1.1, Nat.le_trans (by decide) hR1.2⟩ (kd7_put_ok (66, .invokestatic 27, 3) (List.mem_of_getElem? (i := 39) rfl))) (am_allc (am_ck_S (n := 5) X hEs hE.1 (km7_putScript hE) (hg_good (gw_mem 918 (by decide +kernel))) rfl (List.mem_cons_of_mem _ (gw_mem 90 (by decide +kernel))) (List.mem_cons_of_mem _ (gw_mem 916 (by decide +kernel))) (List.mem_cons_of_mem _ (gw_mem 917 (by decide +kernel))) (by decide +kernel) ⟨Nat.le_trans (by decide) hR1.1, Nat.le_trans (by decide) hR1.2⟩ (kd7_put_ok (88, .invokestatic 31, 3) (List.mem_of_getElem? (i := 51) rfl))) (am_allc (am_ck_S (n := 3) X hEs hE.1 (km7_putBareStyle hE) (hg_good (gw_mem 928 (by decide +kernel))) rfl (List.mem_cons_of_mem _ (gw_mem 90 (by decide +kernel))) (List.mem_cons_of_mem _ (gw_mem 926 (by decide +kernel))) (List.mem_cons_of_mem _ (gw_mem 927 (by decide +kernel))) (by decide +kernel) ⟨Nat.le_trans (by decide) hR1.1, Nat.le_trans (by decide) hR1.2⟩ (kd7_put_ok (102, .invokestatic 35, 3) (List.mem_of_getElem? (i := 58) rfl))) (am_allc (am_ck_S (n := 3) X hEs hE.1 (km7_putStyleString hE) (hg_good (gw_mem 936 (by decide +kernel))) rfl (List.mem_cons_of_mem _ (gw_mem 90 (by decide +kernel))) (List.mem_cons_of_mem _ (gw_mem 934 (by decide +kernel))) (List.mem_cons_of_mem _ (gw_mem 935 (by decide +kernel))) (by decide +kernel) ⟨Nat.le_trans (by decide) hR1.1, Nat.le_trans (by decide) hR1.2⟩ (kd7_put_ok (111, .invokestatic 38, 3) (List.mem_of_getElem? (i := 63) rfl))) (am_all0)))))))
    exact hz _ (am_as_mem hq)
