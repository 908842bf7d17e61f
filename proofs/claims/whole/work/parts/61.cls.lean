noncomputable def ki7_putMarkup : List (Nat × Option (List Nat) × Nat × (List am_V → List am_C → Prop) × am_M) := [(5, some [2, 3, 4, 5, 6], 2, pr2_length, fm2_length), (14, some [2, 3, 4, 5, 6], 3, pr2_at, fm2_at), (29, some [0, 1], 2, pr6_putAll, fm6_putAll), (45, some [0, 1], 2, pr6_putAll, fm6_putAll), (61, some [0, 1], 2, pr6_putAll, fm6_putAll), (77, some [0, 1], 2, pr6_putAll, fm6_putAll), (93, some [0, 1], 2, pr6_putAll, fm6_putAll), (102, some [0, 1], 2, pr6_put, fm6_put)]
def kc7_putMarkup : List (Nat × am_V) := [(51, .inr (.inr (17 + 1))), (53, .inr (.inr (18 + 1))), (55, .inr (.inr (19 + 1))), (57, .inr (.inr (20 + 1))), (59, .inr (.inr (21 + 1)))]
noncomputable def kb7_putMarkup : am_B := (kd7_putMarkup, am_as kf7, hn_ty, fun _ => none, am_as kc7_putMarkup, am_as ki7_putMarkup, fun _ => none, 5, 5, none)
noncomputable def fn7_putMarkup_c2 : Nat → qt6 → qt2 → Int32 → Int32 → qt6
  | 0, t, _, _, _ => t
  | fu + 1, t, m, v2, v3 => (if (fn2_length m v2) ≤ v3 then t else (if (fn2_at m v2 v3) = (38 : Int32) then (fn7_putMarkup_c2 fu (fn6_putAll 1000 t 17) m v2 (v3 + (1 : Int32))) else (if (fn2_at m v2 v3) = (60 : Int32) then (fn7_putMarkup_c2 fu (fn6_putAll 1000 t 18) m v2 (v3 + (1 : Int32))) else (if (fn2_at m v2 v3) = (62 : Int32) then (fn7_putMarkup_c2 fu (fn6_putAll 1000 t 19) m v2 (v3 + (1 : Int32))) else (if (fn2_at m v2 v3) = (34 : Int32) then (fn7_putMarkup_c2 fu (fn6_putAll 1000 t 20) m v2 (v3 + (1 : Int32))) else (if (fn2_at m v2 v3) = (39 : Int32) then (fn7_putMarkup_c2 fu (fn6_putAll 1000 t 21) m v2 (v3 + (1 : Int32))) else (fn7_putMarkup_c2 fu ((fn6_put 1000 t (fn2_at m v2 v3)).2) m v2 (v3 + (1 : Int32)))))))))
def wp7_putMarkup_c2 : Nat → qt6 → qt2 → Int32 → Int32 → Prop
  | 0, _, _, _, _ => False
  | fu + 1, t, m, v2, v3 => ((wp2_length m v2) ∧ (((fn2_length m v2) ≤ v3 → True) ∧ (¬ (fn2_length m v2) ≤ v3 → ((wp2_at m v2 v3) ∧ (((fn2_at m v2 v3) = (38 : Int32) → ((wp6_putAll 1000 t 17) ∧ (wp7_putMarkup_c2 fu (fn6_putAll 1000 t 17) m v2 (v3 + (1 : Int32))))) ∧ (¬ (fn2_at m v2 v3) = (38 : Int32) → (((fn2_at m v2 v3) = (60 : Int32) → ((wp6_putAll 1000 t 18) ∧ (wp7_putMarkup_c2 fu (fn6_putAll 1000 t 18) m v2 (v3 + (1 : Int32))))) ∧ (¬ (fn2_at m v2 v3) = (60 : Int32) → (((fn2_at m v2 v3) = (62 : Int32) → ((wp6_putAll 1000 t 19) ∧ (wp7_putMarkup_c2 fu (fn6_putAll 1000 t 19) m v2 (v3 + (1 : Int32))))) ∧ (¬ (fn2_at m v2 v3) = (62 : Int32) → (((fn2_at m v2 v3) = (34 : Int32) → ((wp6_putAll 1000 t 20) ∧ (wp7_putMarkup_c2 fu (fn6_putAll 1000 t 20) m v2 (v3 + (1 : Int32))))) ∧ (¬ (fn2_at m v2 v3) = (34 : Int32) → (((fn2_at m v2 v3) = (39 : Int32) → ((wp6_putAll 1000 t 21) ∧ (wp7_putMarkup_c2 fu (fn6_putAll 1000 t 21) m v2 (v3 + (1 : Int32))))) ∧ (¬ (fn2_at m v2 v3) = (39 : Int32) → ((wp6_put 1000 t (fn2_at m v2 v3)) ∧ (wp7_putMarkup_c2 fu ((fn6_put 1000 t (fn2_at m v2 v3)).2) m v2 (v3 + (1 : Int32))))))))))))))))))
set_option maxRecDepth 100000 in
set_option maxHeartbeats 4000000 in
theorem rc7_putMarkup_2 : ∀ (fu : Nat) (t : qt6) (m : qt2) (v2 : Int32) (v3 : Int32) (j4 : Option am_V) (g4 : am_loO 7 j4 = true) , wp7_putMarkup_c2 fu t m v2 v3 → am_lf (am_mk kb7_putMarkup 0 0 7) [2] (2, [some (.inr (.inl 0)), some (.inr (.inl 2)), some (.inl v2), some (.inl v3), j4], [], (kw_TI t m), 0, 0) = some (none, (kw_TI (fn7_putMarkup_c2 fu t m v2 v3) m)) := by
  intro fu
  induction fu with
  | zero =>
    intro t m v2 v3 j4 g4 hp
    exact hp.elim
  | succ fu ih =>
    intro t m v2 v3 j4 g4 hp
    unfold wp7_putMarkup_c2 at hp
    refine am_lf_eq ?_
    generalize am_lf (am_mk kb7_putMarkup 0 0 7) [2] = kt at ih ⊢
    refine am_cy (pre := pr2_length) (f := fm2_length) (a' := [.inr (.inl 0), .inl v2]) (wc := (kw_I m)) (w' := (kw_TI t m)) (r := (some (.inl (fn2_length m v2)), (kw_I m), 0, 0)) ?_ ?_ ?_ ?_ ?_ ?_ ?_ ?_ ?_ ?_
    · exact ks_TI_I_1_o t m
    · rfl
    · rfl
    · exact ks_TI_I_1_s t m
    · exact ⟨m, v2, rfl, rfl, hp.1⟩
    · exact fe2_length m v2
    · exact kwl_I m
    · rfl
    · exact ks_TI_I_1_m t m m
    refine am_if (c := (fn2_length m v2) ≤ v3) (fun h2 => ?_) (fun h2 => ?_)
    · have e : fn7_putMarkup_c2 (fu + 1) t m v2 v3 = t := by
        rw [fn7_putMarkup_c2]
        rw [if_pos h2]
      rw [e] <;> rfl
    · have q2 := hp.2.2 h2
      refine am_cy (pre := pr2_at) (f := fm2_at) (a' := [.inr (.inl 0), .inl v2, .inl v3]) (wc := (kw_I m)) (w' := (kw_TI t m)) (r := (some (.inl (fn2_at m v2 v3)), (kw_I m), 0, 0)) ?_ ?_ ?_ ?_ ?_ ?_ ?_ ?_ ?_ ?_
      · exact ks_TI_I_1_o t m
      · rfl
      · rfl
      · exact ks_TI_I_1_s t m
      · exact ⟨m, v2, v3, rfl, rfl, q2.1⟩
      · exact fe2_at m v2 v3
      · exact kwl_I m
      · rfl
      · exact ks_TI_I_1_m t m m
      refine am_if (c := (fn2_at m v2 v3) = (38 : Int32)) (fun h3 => ?_) (fun h3 => ?_)
      · have q3 := q2.2.1 h3
        refine am_cy (pre := pr6_putAll) (f := fm6_putAll) (a' := [.inr (.inl 0), .inr (.inr (17 + 1))]) (wc := (kw_T 1000 t)) (w' := (kw_TI (fn6_putAll 1000 t 17) m)) (r := (none, (kw_T 1000 (fn6_putAll 1000 t 17)), 0, 0)) ?_ ?_ ?_ ?_ ?_ ?_ ?_ ?_ ?_ ?_
        · exact ks_TI_T_0_o t m
        · rfl
        · rfl
        · exact ks_TI_T_0_s t m
        · exact ⟨1000, t, 17, rfl, rfl, q3.1⟩
        · exact fe6_putAll 1000 t 17
        · exact kwl_T 1000 (fn6_putAll 1000 t 17)
        · rfl
        · exact ks_TI_T_0_m t m (fn6_putAll 1000 t 17)
        have e : fn7_putMarkup_c2 (fu + 1) t m v2 v3 = fn7_putMarkup_c2 fu (fn6_putAll 1000 t 17) m v2 (v3 + (1 : Int32)) := by
          rw [fn7_putMarkup_c2]
          rw [if_neg h2, if_pos h3]
        rw [e]
        exact ih (fn6_putAll 1000 t 17) m v2 (v3 + (1 : Int32)) _ rfl q3.2
      · have q3 := q2.2.2 h3
        refine am_if (c := (fn2_at m v2 v3) = (60 : Int32)) (fun h4 => ?_) (fun h4 => ?_)
        · have q4 := q3.1 h4
          refine am_cy (pre := pr6_putAll) (f := fm6_putAll) (a' := [.inr (.inl 0), .inr (.inr (18 + 1))]) (wc := (kw_T 1000 t)) (w' := (kw_TI (fn6_putAll 1000 t 18) m)) (r := (none, (kw_T 1000 (fn6_putAll 1000 t 18)), 0, 0)) ?_ ?_ ?_ ?_ ?_ ?_ ?_ ?_ ?_ ?_
          · exact ks_TI_T_0_o t m
          · rfl
          · rfl
          · exact ks_TI_T_0_s t m
          · exact ⟨1000, t, 18, rfl, rfl, q4.1⟩
          · exact fe6_putAll 1000 t 18
          · exact kwl_T 1000 (fn6_putAll 1000 t 18)
          · rfl
          · exact ks_TI_T_0_m t m (fn6_putAll 1000 t 18)
          have e : fn7_putMarkup_c2 (fu + 1) t m v2 v3 = fn7_putMarkup_c2 fu (fn6_putAll 1000 t 18) m v2 (v3 + (1 : Int32)) := by
            rw [fn7_putMarkup_c2]
            rw [if_neg h2, if_neg h3, if_pos h4]
          rw [e]
          exact ih (fn6_putAll 1000 t 18) m v2 (v3 + (1 : Int32)) _ rfl q4.2
        · have q4 := q3.2 h4
          refine am_if (c := (fn2_at m v2 v3) = (62 : Int32)) (fun h5 => ?_) (fun h5 => ?_)
          · have q5 := q4.1 h5
            refine am_cy (pre := pr6_putAll) (f := fm6_putAll) (a' := [.inr (.inl 0), .inr (.inr (19 + 1))]) (wc := (kw_T 1000 t)) (w' := (kw_TI (fn6_putAll 1000 t 19) m)) (r := (none, (kw_T 1000 (fn6_putAll 1000 t 19)), 0, 0)) ?_ ?_ ?_ ?_ ?_ ?_ ?_ ?_ ?_ ?_
            · exact ks_TI_T_0_o t m
            · rfl
            · rfl
            · exact ks_TI_T_0_s t m
            · exact ⟨1000, t, 19, rfl, rfl, q5.1⟩
            · exact fe6_putAll 1000 t 19
            · exact kwl_T 1000 (fn6_putAll 1000 t 19)
            · rfl
            · exact ks_TI_T_0_m t m (fn6_putAll 1000 t 19)
            have e : fn7_putMarkup_c2 (fu + 1) t m v2 v3 = fn7_putMarkup_c2 fu (fn6_putAll 1000 t 19) m v2 (v3 + (1 : Int32)) := by
              rw [fn7_putMarkup_c2]
              rw [if_neg h2, if_neg h3, if_neg h4, if_pos h5]
            rw [e]
            exact ih (fn6_putAll 1000 t 19) m v2 (v3 + (1 : Int32)) _ rfl q5.2
          · have q5 := q4.2 h5
            refine am_if (c := (fn2_at m v2 v3) = (34 : Int32)) (fun h6 => ?_) (fun h6 => ?_)
            · have q6 := q5.1 h6
              refine am_cy (pre := pr6_putAll) (f := fm6_putAll) (a' := [.inr (.inl 0), .inr (.inr (20 + 1))]) (wc := (kw_T 1000 t)) (w' := (kw_TI (fn6_putAll 1000 t 20) m)) (r := (none, (kw_T 1000 (fn6_putAll 1000 t 20)), 0, 0)) ?_ ?_ ?_ ?_ ?_ ?_ ?_ ?_ ?_ ?_
              · exact ks_TI_T_0_o t m
              · rfl
              · rfl
              · exact ks_TI_T_0_s t m
              · exact ⟨1000, t, 20, rfl, rfl, q6.1⟩
              · exact fe6_putAll 1000 t 20
              · exact kwl_T 1000 (fn6_putAll 1000 t 20)
              · rfl
              · exact ks_TI_T_0_m t m (fn6_putAll 1000 t 20)
              have e : fn7_putMarkup_c2 (fu + 1) t m v2 v3 = fn7_putMarkup_c2 fu (fn6_putAll 1000 t 20) m v2 (v3 + (1 : Int32)) := by
                rw [fn7_putMarkup_c2]
                rw [if_neg h2, if_neg h3, if_neg h4, if_neg h5, if_pos h6]
              rw [e]
              exact ih (fn6_putAll 1000 t 20) m v2 (v3 + (1 : Int32)) _ rfl q6.2
            · have q6 := q5.2 h6
              refine am_if (c := (fn2_at m v2 v3) = (39 : Int32)) (fun h7 => ?_) (fun h7 => ?_)
              · have q7 := q6.1 h7
                refine am_cy (pre := pr6_putAll) (f := fm6_putAll) (a' := [.inr (.inl 0), .inr (.inr (21 + 1))]) (wc := (kw_T 1000 t)) (w' := (kw_TI (fn6_putAll 1000 t 21) m)) (r := (none, (kw_T 1000 (fn6_putAll 1000 t 21)), 0, 0)) ?_ ?_ ?_ ?_ ?_ ?_ ?_ ?_ ?_ ?_
                · exact ks_TI_T_0_o t m
                · rfl
                · rfl
                · exact ks_TI_T_0_s t m
                · exact ⟨1000, t, 21, rfl, rfl, q7.1⟩
                · exact fe6_putAll 1000 t 21
                · exact kwl_T 1000 (fn6_putAll 1000 t 21)
                · rfl
                · exact ks_TI_T_0_m t m (fn6_putAll 1000 t 21)
                have e : fn7_putMarkup_c2 (fu + 1) t m v2 v3 = fn7_putMarkup_c2 fu (fn6_putAll 1000 t 21) m v2 (v3 + (1 : Int32)) := by
                  rw [fn7_putMarkup_c2]
                  rw [if_neg h2, if_neg h3, if_neg h4, if_neg h5, if_neg h6, if_pos h7]
                rw [e]
                exact ih (fn6_putAll 1000 t 21) m v2 (v3 + (1 : Int32)) _ rfl q7.2
              · have q7 := q6.2 h7
                refine am_cy (pre := pr6_put) (f := fm6_put) (a' := [.inr (.inl 0), .inl (fn2_at m v2 v3)]) (wc := (kw_T 1000 t)) (w' := (kw_TI ((fn6_put 1000 t (fn2_at m v2 v3)).2) m)) (r := (some (.inl ((fn6_put 1000 t (fn2_at m v2 v3)).1)), (kw_T 1000 ((fn6_put 1000 t (fn2_at m v2 v3)).2)), 0, 0)) ?_ ?_ ?_ ?_ ?_ ?_ ?_ ?_ ?_ ?_
                · exact ks_TI_T_0_o t m
                · rfl
                · rfl
                · exact ks_TI_T_0_s t m
                · exact ⟨1000, t, (fn2_at m v2 v3), rfl, rfl, q7.1⟩
                · exact fe6_put 1000 t (fn2_at m v2 v3)
                · exact kwl_T 1000 ((fn6_put 1000 t (fn2_at m v2 v3)).2)
                · rfl
                · exact ks_TI_T_0_m t m ((fn6_put 1000 t (fn2_at m v2 v3)).2)
                have e : fn7_putMarkup_c2 (fu + 1) t m v2 v3 = fn7_putMarkup_c2 fu ((fn6_put 1000 t (fn2_at m v2 v3)).2) m v2 (v3 + (1 : Int32)) := by
                  rw [fn7_putMarkup_c2]
                  rw [if_neg h2, if_neg h3, if_neg h4, if_neg h5, if_neg h6, if_neg h7]
                rw [e]
                exact ih ((fn6_put 1000 t (fn2_at m v2 v3)).2) m v2 (v3 + (1 : Int32)) _ rfl q7.2
noncomputable def fn7_putMarkup (t : qt6) (m : qt2) (p2 : Int32) : qt6 := Classical.choose (⟨_, rfl⟩ : ∃ z : qt6, z = (fn7_putMarkup_c2 hg_fu t m p2 (0 : Int32)))
theorem fq7_putMarkup (t : qt6) (m : qt2) (p2 : Int32) : fn7_putMarkup t m p2 = (fn7_putMarkup_c2 hg_fu t m p2 (0 : Int32)) := Classical.choose_spec (⟨_, rfl⟩ : ∃ z : qt6, z = (fn7_putMarkup_c2 hg_fu t m p2 (0 : Int32)))
def wp7_putMarkup (t : qt6) (m : qt2) (p2 : Int32) : Prop := (wp7_putMarkup_c2 hg_fu t m p2 (0 : Int32))
set_option maxRecDepth 100000 in
set_option maxHeartbeats 4000000 in
theorem re7_putMarkup (t : qt6) (m : qt2) (p2 : Int32) (hp : wp7_putMarkup t m p2) : am_lf (am_mk kb7_putMarkup 0 0 7) [2] (0, am_L0 [.inr (.inl 0), .inr (.inl 2), .inl p2] 5, [], (kw_TI t m), 0, 0) = some (none, (kw_TI (fn7_putMarkup t m p2) m)) := by
  unfold wp7_putMarkup at hp
  have i2 := @rc7_putMarkup_2
  refine am_lf_eq ?_
  generalize am_lf (am_mk kb7_putMarkup 0 0 7) [2] = kt at i2 ⊢
  have e : fn7_putMarkup t m p2 = fn7_putMarkup_c2 hg_fu t m p2 (0 : Int32) := by
    rw [fq7_putMarkup]
  rw [e]
  exact i2 hg_fu t m p2 (0 : Int32) _ rfl hp
abbrev pr7_putMarkup : List am_V → List am_C → Prop := fun a w => ∃ (t : qt6) (m : qt2) (p2 : Int32), a = [.inr (.inl 0), .inr (.inl 2), .inl p2] ∧ w = (kw_TI t m) ∧ wp7_putMarkup t m p2
noncomputable def fm7_putMarkup : am_M := fun a w => (fun (z : qt6) => (none, (kw_TI z (qs2 w 2)), 0, 0)) (fn7_putMarkup (qs6 w 0) (qs2 w 2) (am_i (am_an a 2)))
theorem fe7_putMarkup (t : qt6) (m : qt2) (p2 : Int32) : fm7_putMarkup [.inr (.inl 0), .inr (.inl 2), .inl p2] (kw_TI t m) = (none, (kw_TI (fn7_putMarkup t m p2) m), 0, 0) := rfl
set_option maxRecDepth 100000 in
set_option maxHeartbeats 4000000 in
theorem rn7_putMarkup : ∀ (a : List am_V) (w : List am_C), pr7_putMarkup a w → ∃ nq, am_ev (am_mk kb7_putMarkup (fm7_putMarkup a w).2.2.1 (fm7_putMarkup a w).2.2.2 w.length) [2] nq (0, am_L0 a 5, [], w, 0, 0) = some ((fm7_putMarkup a w).1, (fm7_putMarkup a w).2.1) := by
  rintro a w ⟨t, m, p2, rfl, rfl, hp⟩
  rw [fe7_putMarkup t m p2]
  exact am_lf_ev (re7_putMarkup t m p2 hp)
theorem rl7_putMarkup : ∀ (a : List am_V) (w : List am_C), pr7_putMarkup a w → a.length ≤ 5 := by
  rintro a w ⟨t, m, p2, rfl, rfl, hp⟩
  exact Nat.le_of_ble_eq_true rfl
set_option maxRecDepth 100000 in
set_option maxHeartbeats 4000000 in
theorem km7_putMarkup {l : Launch} {E : (Nat → Prop) → State → Prop} {D : va_G} {ou : Nat → Nat} {ca : Nat → ClassId} (hE : hg_E E ou) : hg_Met l E D ou ca hy7_putMarkup prog_9_method_3_code 5 none 5 pr7_putMarkup fm7_putMarkup := by
  refine am_met (B := kb7_putMarkup) (cuts := [2]) (nt := 5) (by decide +kernel) rfl rfl (hg_tys_ok ca) ?_ (by decide) rl7_putMarkup ?_ rn7_putMarkup
  · exact fun t ht => List.mem_cons_of_mem _ (hg_arr t ht)
  · intro a w hp ad p e R s m args below meth c hR X hEs hnm
    have hR1 : 5 ≤ R.frames ∧ 200 ≤ R.locals := by rw [hR]; exact ⟨Nat.le_refl _, Nat.le_refl _⟩
    have hN := hE.2.1 _ _ hEs
    have hc : ∀ q ∈ kc7_putMarkup, am_LK s hn_R7 args ou q.1 q.2 := am_allc (hg_lk hN.2 17 rfl) (am_allc (hg_lk hN.2 18 rfl) (am_allc (hg_lk hN.2 19 rfl) (am_allc (hg_lk hN.2 20 rfl) (am_allc (hg_lk hN.2 21 rfl) (am_all0)))))
    refine ⟨kd7_putMarkup_ok, fun index ci fi mode hq => kf7_ok X.2.2.2.2.1 hN.1 (index, ci, fi, mode) (am_as_mem hq), fun index ci fs hq => (am_no hq).elim, fun x v hq => hc (x, v) (am_as_mem hq), ?_, fun o t n f hq => (am_no hq).elim, rfl, rfl, by rw [hR]; exact Nat.le_refl _, by rw [hR]; exact Nat.le_refl _⟩
    intro pc sel n0 pre0 f0 hq
    have hz : ∀ q ∈ ki7_putMarkup, am_CK p l e R s m args below meth c D hn_cl (va_A (am_w ad ou ca w) s.heap.size) ou ca 5 q.1 q.2.2.1 q.2.2.2.1 q.2.2.2.2 := by
      refine am_allc (am_ck_V (n := 1) X hEs hE.1 (km2_length hE) (hg_good (gw_mem 805 (by decide +kernel))) rfl (List.mem_cons_of_mem _ (gw_mem 71 (by decide +kernel))) (List.mem_cons_of_mem _ (gw_mem 802 (by decide +kernel))) (List.mem_cons_of_mem _ (gw_mem 803 (by decide +kernel))) (List.mem_cons_of_mem _ (gw_mem 804 (by decide +kernel))) pa2_length (by decide +kernel) ⟨Nat.le_trans (by decide) hR1.1, Nat.le_trans (by decide) hR1.2⟩ (kd7_putMarkup_ok (5, .invokevirtual 41, 3) (List.mem_of_getElem? (i := 5) rfl))) (am_allc (am_ck_V (n := 2) X hEs hE.1 (km2_at hE) (hg_good (gw_mem 809 (by decide +kernel))) rfl (List.mem_cons_of_mem _ (gw_mem 71 (by decide +kernel))) (List.mem_cons_of_mem _ (gw_mem 806 (by decide +kernel))) (List.mem_cons_of_mem _ (gw_mem 807 (by decide +kernel))) (List.mem_cons_of_mem _ (gw_mem 808 (by decide +kernel))) pa2_at (by decide +kernel) ⟨Nat.le_trans (by decide) hR1.1, Nat.le_trans (by decide) hR1.2⟩ (kd7_putMarkup_ok (14, .invokevirtual 47, 3) (List.mem_of_getElem? (i := 10) rfl))) (am_allc (am_ck_V (n := 1) X hEs hE.1 (km6_putAll hE) (hg_good (gw_mem 814 (by decide +kernel))) rfl (List.mem_cons_of_mem _ (gw_mem 69 (by decide +kernel))) (List.mem_cons_of_mem _ (gw_mem 811 (by decide +kernel))) (List.mem_cons_of_mem _ (gw_mem 812 (by decide +kernel))) (List.mem_cons_of_mem _ (gw_mem 813 (by decide +kernel))) pa6_putAll (by decide +kernel) ⟨Nat.le_trans (by decide) hR1.1, Nat.le_trans (by decide) hR1.2⟩ (kd7_putMarkup_ok (29, .invokevirtual 21, 3) (List.mem_of_getElem? (i := 17) rfl))) (am_allc (am_ck_V (n := 1) X hEs hE.1 (km6_putAll hE) (hg_good (gw_mem 814 (by decide +kernel))) rfl (List.mem_cons_of_mem _ (gw_mem 69 (by decide +kernel))) (List.mem_cons_of_mem _ (gw_mem 811 (by decide +kernel))) (List.mem_cons_of_mem _ (gw_mem 812 (by decide +kernel))) (List.mem_cons_of_mem _ (gw_mem 813 (by decide +kernel))) pa6_putAll (by decide +kernel) ⟨Nat.le_trans (by decide) hR1.1, Nat.le_trans (by decide) hR1.2⟩ (kd7_putMarkup_ok (45, .invokevirtual 21, 3) (List.mem_of_getElem? (i := 24) rfl))) (am_allc (am_ck_V (n := 1) X hEs hE.1 (km6_putAll hE) (hg_good (gw_mem 814 (by decide +kernel))) rfl (List.mem_cons_of_mem _ (gw_mem 69 (by decide +kernel))) (List.mem_cons_of_mem _ (gw_mem 811 (by decide +kernel))) (List.mem_cons_of_mem _ (gw_mem 812 (by decide +kernel))) (List.mem_cons_of_mem _ (gw_mem 813 (by decide +kernel))) pa6_putAll (by decide +kernel) ⟨Nat.le_trans (by decide) hR1.1, Nat.le_trans (by decide) hR1.2⟩ (kd7_putMarkup_ok (61, .invokevirtual 21, 3) (List.mem_of_getElem? (i := 31) rfl))) (am_allc (am_ck_V (n := 1) X hEs hE.1 (km6_putAll hE) (hg_good (gw_mem 814 (by decide +kernel))) rfl (List.mem_cons_of_mem _ (gw_mem 69 (by decide +kernel))) (List.mem_cons_of_mem _ (gw_mem 811 (by decide +kernel))) (List.mem_cons_of_mem _ (gw_mem 812 (by decide +kernel))) (List.mem_cons_of_mem _ (gw_mem 813 (by decide +kernel))) pa6_putAll (by decide +kernel) ⟨Nat.le_trans (by decide) hR1.1, Nat.le_trans (by decide) hR1.2⟩ (kd7_putMarkup_ok (77, .invokevirtual 21, 3) (List.mem_of_getElem? (i := 38) rfl))) (am_allc (am_ck_V (n := 1) X hEs hE.1 (km6_putAll hE) (hg_good (gw_mem 814 (by decide +kernel))) rfl (List.mem_cons_of_mem _ (gw_mem 69 (by decide +kernel))) (List.mem_cons_of_mem _ (gw_mem 811 (by decide +kernel))) (List.mem_cons_of_mem _ (gw_mem 812 (by decide +kernel))) (List.mem_cons_of_mem _ (gw_mem 813 (by decide +kernel))) pa6_putAll (by decide +kernel) ⟨Nat.le_trans (by decide) hR1.1, Nat.le_trans (by decide) hR1.2⟩ (kd7_putMarkup_ok (93, .invokevirtual 21, 3) (List.mem_of_getElem? (i := 45) rfl))) (am_allc (am_ck_V (n := 1) X hEs hE.1 (km6_put hE) (hg_good (gw_mem 290 (by decide +kernel))) rfl (List.mem_cons_of_mem _ (gw_mem 69 (by decide +kernel))) (List.mem_cons_of_mem _ (gw_mem 822 (by decide +kernel))) (List.mem_cons_of_mem _ (gw_mem 288 (by decide +kernel))) (List.mem_cons_of_mem _ (gw_mem 289 (by decide +kernel))) pa6_put (by decide +kernel) ⟨Nat.le_trans (by decide) hR1.1, Nat.le_trans (by decide) hR1.2⟩ (kd7_putMarkup_ok (102, .invokevirtual 61, 3) (List.mem_of_getElem? (i := 49) rfl))) (am_all0))))))))
    exact hz _ (am_as_mem hq)
noncomputable def ki7_hasForeignScheme : List (Nat × Option (List Nat) × Nat × (List am_V → List am_C → Prop) × am_M) := [(5, none, 2, pr2_length, fm2_length), (16, none, 3, pr2_at, fm2_at), (19, some [], 2, prJ_indexOf, fmJ_indexOf), (34, none, 3, pr2_at, fm2_at), (49, none, 4, pr2_begins, fm2_begins), (60, none, 4, pr2_begins, fm2_begins), (71, none, 4, pr2_begins, fm2_begins)]
def kc7_hasForeignScheme : List (Nat × am_V) := [(83, .inr (.inr (22 + 1))), (85, .inr (.inr (23 + 1))), (91, .inr (.inr (24 + 1))), (93, .inr (.inr (25 + 1)))]
noncomputable def kb7_hasForeignScheme : am_B := (kd7_hasForeignScheme, am_as kf7, hn_ty, fun _ => none, am_as kc7_hasForeignScheme, am_as ki7_hasForeignScheme, fun _ => none, 5, 4, (some .boolean))
noncomputable def fn7_hasForeignScheme_c82 (m : qt2) (u0 : Int32) : Int32 := (if u0 = 0 then (1 : Int32) else (0 : Int32))
def wp7_hasForeignScheme_c82 (m : qt2) (u0 : Int32) : Prop := True
set_option maxRecDepth 100000 in
set_option maxHeartbeats 4000000 in
theorem rc7_hasForeignScheme_82 (m : qt2) (u0 : Int32) (j1 : Option am_V) (j2 : Option am_V) (j3 : Option am_V) (g1 : am_loO 5 j1 = true) (g2 : am_loO 5 j2 = true) (g3 : am_loO 5 j3 = true) (hp : wp7_hasForeignScheme_c82 m u0) : am_lf (am_mk kb7_hasForeignScheme 0 0 5) [2, 31, 77, 82] (82, [some (.inr (.inl 0)), j1, j2, j3], [.inl u0], (kw_I m), 0, 0) = some (some (.inl (fn7_hasForeignScheme_c82 m u0)), (kw_I m)) := by
  unfold wp7_hasForeignScheme_c82 at hp
  refine am_lf_eq ?_
  generalize am_lf (am_mk kb7_hasForeignScheme 0 0 5) [2, 31, 77, 82] = kt
  refine am_if (c := u0 = 0) (fun h1 => ?_) (fun h1 => ?_)
  · have e : fn7_hasForeignScheme_c82 m u0 = (1 : Int32) := by
      rw [fn7_hasForeignScheme_c82]
      rw [if_pos h1]
    rw [e] <;> rfl
  · have e : fn7_hasForeignScheme_c82 m u0 = (0 : Int32) := by
      rw [fn7_hasForeignScheme_c82]
      rw [if_neg h1]
    rw [e] <;> rfl
noncomputable def fn7_hasForeignScheme_c77 (m : qt2) : Int32 := (fn7_hasForeignScheme_c82 m (1 : Int32))
def wp7_hasForeignScheme_c77 (m : qt2) : Prop := (wp7_hasForeignScheme_c82 m (1 : Int32))
set_option maxRecDepth 100000 in
set_option maxHeartbeats 4000000 in
theorem rc7_hasForeignScheme_77 (m : qt2) (j1 : Option am_V) (j2 : Option am_V) (j3 : Option am_V) (g1 : am_loO 5 j1 = true) (g2 : am_loO 5 j2 = true) (g3 : am_loO 5 j3 = true) (hp : wp7_hasForeignScheme_c77 m) : am_lf (am_mk kb7_hasForeignScheme 0 0 5) [2, 31, 77, 82] (77, [some (.inr (.inl 0)), j1, j2, j3], [], (kw_I m), 0, 0) = some (some (.inl (fn7_hasForeignScheme_c77 m)), (kw_I m)) := by
  unfold wp7_hasForeignScheme_c77 at hp
  have i82 := @rc7_hasForeignScheme_82
  refine am_lf_eq ?_
  generalize am_lf (am_mk kb7_hasForeignScheme 0 0 5) [2, 31, 77, 82] = kt at i82 ⊢
  have e : fn7_hasForeignScheme_c77 m = fn7_hasForeignScheme_c82 m (1 : Int32) := by
    rw [fn7_hasForeignScheme_c77]
  rw [e]
  exact i82 m (1 : Int32) _ _ _ g1 g2 g3 hp
noncomputable def fn7_hasForeignScheme_c31 (m : qt2) (v1 : Int32) (v2 : Int32) : Int32 := (if (fn2_at m v1 v2) = (58 : Int32) then (if (fn2_begins m v1 v2 23) = 0 then (if (fn2_begins m v1 v2 24) = 0 then (if (fn2_begins m v1 v2 25) = 0 then (fn7_hasForeignScheme_c82 m (0 : Int32)) else (fn7_hasForeignScheme_c77 m)) else (fn7_hasForeignScheme_c77 m)) else (fn7_hasForeignScheme_c77 m)) else (0 : Int32))
def wp7_hasForeignScheme_c31 (m : qt2) (v1 : Int32) (v2 : Int32) : Prop := ((wp2_at m v1 v2) ∧ (((fn2_at m v1 v2) = (58 : Int32) → ((wp2_begins m v1 v2 23) ∧ (((fn2_begins m v1 v2 23) = 0 → ((wp2_begins m v1 v2 24) ∧ (((fn2_begins m v1 v2 24) = 0 → ((wp2_begins m v1 v2 25) ∧ (((fn2_begins m v1 v2 25) = 0 → (wp7_hasForeignScheme_c82 m (0 : Int32))) ∧ (¬ (fn2_begins m v1 v2 25) = 0 → (wp7_hasForeignScheme_c77 m))))) ∧ (¬ (fn2_begins m v1 v2 24) = 0 → (wp7_hasForeignScheme_c77 m))))) ∧ (¬ (fn2_begins m v1 v2 23) = 0 → (wp7_hasForeignScheme_c77 m))))) ∧ (¬ (fn2_at m v1 v2) = (58 : Int32) → True)))
set_option maxRecDepth 100000 in
set_option maxHeartbeats 4000000 in
theorem rc7_hasForeignScheme_31 (m : qt2) (v1 : Int32) (v2 : Int32) (j3 : Option am_V) (g3 : am_loO 5 j3 = true) (hp : wp7_hasForeignScheme_c31 m v1 v2) : am_lf (am_mk kb7_hasForeignScheme 0 0 5) [2, 31, 77, 82] (31, [some (.inr (.inl 0)), some (.inl v1), some (.inl v2), j3], [], (kw_I m), 0, 0) = some (some (.inl (fn7_hasForeignScheme_c31 m v1 v2)), (kw_I m)) := by
  unfold wp7_hasForeignScheme_c31 at hp
  have i77 := @rc7_hasForeignScheme_77
  have i82 := @rc7_hasForeignScheme_82
  refine am_lf_eq ?_
  generalize am_lf (am_mk kb7_hasForeignScheme 0 0 5) [2, 31, 77, 82] = kt at i77 i82 ⊢
  refine am_cx (pre := pr2_at) (f := fm2_at) (r := (some (.inl (fn2_at m v1 v2)), (kw_I m), 0, 0)) ?_ ?_ ?_ ?_
  · exact ⟨m, v1, v2, rfl, rfl, hp.1⟩
  · exact fe2_at m v1 v2
  · exact (am_ac rfl (am_ac rfl (am_ac rfl (am_ac g3 am_a0))))
  refine am_if (c := (fn2_at m v1 v2) = (58 : Int32)) (fun h1 => ?_) (fun h1 => ?_)
  · have q1 := hp.2.1 h1
    refine am_cx (pre := pr2_begins) (f := fm2_begins) (r := (some (.inl (fn2_begins m v1 v2 23)), (kw_I m), 0, 0)) ?_ ?_ ?_ ?_
    · exact ⟨m, v1, v2, 23, rfl, rfl, q1.1⟩
    · exact fe2_begins m v1 v2 23
    · exact (am_ac rfl (am_ac rfl (am_ac rfl (am_ac g3 am_a0))))
    refine am_if (c := (fn2_begins m v1 v2 23) = 0) (fun h2 => ?_) (fun h2 => ?_)
    · have q2 := q1.2.1 h2
      refine am_cx (pre := pr2_begins) (f := fm2_begins) (r := (some (.inl (fn2_begins m v1 v2 24)), (kw_I m), 0, 0)) ?_ ?_ ?_ ?_
      · exact ⟨m, v1, v2, 24, rfl, rfl, q2.1⟩
      · exact fe2_begins m v1 v2 24
      · exact (am_ac rfl (am_ac rfl (am_ac rfl (am_ac g3 am_a0))))
      refine am_if (c := (fn2_begins m v1 v2 24) = 0) (fun h3 => ?_) (fun h3 => ?_)
      · have q3 := q2.2.1 h3
        refine am_cx (pre := pr2_begins) (f := fm2_begins) (r := (some (.inl (fn2_begins m v1 v2 25)), (kw_I m), 0, 0)) ?_ ?_ ?_ ?_
        · exact ⟨m, v1, v2, 25, rfl, rfl, q3.1⟩
        · exact fe2_begins m v1 v2 25
        · exact (am_ac rfl (am_ac rfl (am_ac rfl (am_ac g3 am_a0))))
        refine am_if (c := (fn2_begins m v1 v2 25) = 0) (fun h4 => ?_) (fun h4 => ?_)
        · have q4 := q3.2.1 h4
          have e : fn7_hasForeignScheme_c31 m v1 v2 = fn7_hasForeignScheme_c82 m (0 : Int32) := by
            rw [fn7_hasForeignScheme_c31]
            rw [if_pos h1, if_pos h2, if_pos h3, if_pos h4]
          rw [e]
          exact i82 m (0 : Int32) _ _ _ rfl rfl g3 q4
        · have q4 := q3.2.2 h4
          have e : fn7_hasForeignScheme_c31 m v1 v2 = fn7_hasForeignScheme_c77 m := by
            rw [fn7_hasForeignScheme_c31]
            rw [if_pos h1, if_pos h2, if_pos h3, if_neg h4]
          rw [e]
          exact i77 m _ _ _ rfl rfl g3 q4
      · have q3 := q2.2.2 h3
        have e : fn7_hasForeignScheme_c31 m v1 v2 = fn7_hasForeignScheme_c77 m := by
          rw [fn7_hasForeignScheme_c31]
          rw [if_pos h1, if_pos h2, if_neg h3]
        rw [e]
        exact i77 m _ _ _ rfl rfl g3 q3
    · have q2 := q1.2.2 h2
      have e : fn7_hasForeignScheme_c31 m v1 v2 = fn7_hasForeignScheme_c77 m := by
        rw [fn7_hasForeignScheme_c31]
        rw [if_pos h1, if_neg h2]
      rw [e]
      exact i77 m _ _ _ rfl rfl g3 q2
  · have e : fn7_hasForeignScheme_c31 m v1 v2 = (0 : Int32) := by
      rw [fn7_hasForeignScheme_c31]
      rw [if_neg h1]
    rw [e] <;> rfl
noncomputable def fn7_hasForeignScheme_c2 : Nat → qt2 → Int32 → Int32 → Int32
  | 0, _, _, _ => 0
  | fu + 1, m, v1, v2 => (if (fn2_length m v1) ≤ v2 then (fn7_hasForeignScheme_c31 m v1 v2) else (if 0 ≤ (fnJ_indexOf 22 (fn2_at m v1 v2)) then (fn7_hasForeignScheme_c31 m v1 v2) else (fn7_hasForeignScheme_c2 fu m v1 (v2 + (1 : Int32)))))
def wp7_hasForeignScheme_c2 : Nat → qt2 → Int32 → Int32 → Prop
  | 0, _, _, _ => False
  | fu + 1, m, v1, v2 => ((wp2_length m v1) ∧ (((fn2_length m v1) ≤ v2 → (wp7_hasForeignScheme_c31 m v1 v2)) ∧ (¬ (fn2_length m v1) ≤ v2 → ((wp2_at m v1 v2) ∧ ((wpJ_indexOf 22 (fn2_at m v1 v2)) ∧ ((0 ≤ (fnJ_indexOf 22 (fn2_at m v1 v2)) → (wp7_hasForeignScheme_c31 m v1 v2)) ∧ (¬ 0 ≤ (fnJ_indexOf 22 (fn2_at m v1 v2)) → (wp7_hasForeignScheme_c2 fu m v1 (v2 + (1 : Int32))))))))))
set_option maxRecDepth 100000 in
set_option maxHeartbeats 4000000 in
theorem rc7_hasForeignScheme_2 : ∀ (fu : Nat) (m : qt2) (v1 : Int32) (v2 : Int32) (j3 : Option am_V) (g3 : am_loO 5 j3 = true) , wp7_hasForeignScheme_c2 fu m v1 v2 → am_lf (am_mk kb7_hasForeignScheme 0 0 5) [2, 31, 77, 82] (2, [some (.inr (.inl 0)), some (.inl v1), some (.inl v2), j3], [], (kw_I m), 0, 0) = some (some (.inl (fn7_hasForeignScheme_c2 fu m v1 v2)), (kw_I m)) := by
  intro fu
  induction fu with
  | zero =>
    intro m v1 v2 j3 g3 hp
    exact hp.elim
  | succ fu ih =>
    intro m v1 v2 j3 g3 hp
    unfold wp7_hasForeignScheme_c2 at hp
    have i31 := @rc7_hasForeignScheme_31
    refine am_lf_eq ?_
    generalize am_lf (am_mk kb7_hasForeignScheme 0 0 5) [2, 31, 77, 82] = kt at i31 ih ⊢
    refine am_cx (pre := pr2_length) (f := fm2_length) (r := (some (.inl (fn2_length m v1)), (kw_I m), 0, 0)) ?_ ?_ ?_ ?_
    · exact ⟨m, v1, rfl, rfl, hp.1⟩
    · exact fe2_length m v1
    · exact (am_ac rfl (am_ac rfl (am_ac rfl (am_ac g3 am_a0))))
    refine am_if (c := (fn2_length m v1) ≤ v2) (fun h2 => ?_) (fun h2 => ?_)
    · have q2 := hp.2.1 h2
      have e : fn7_hasForeignScheme_c2 (fu + 1) m v1 v2 = fn7_hasForeignScheme_c31 m v1 v2 := by
        rw [fn7_hasForeignScheme_c2]
        rw [if_pos h2]
      rw [e]
      exact i31 m v1 v2 _ g3 q2
    · have q2 := hp.2.2 h2
      refine am_cx (pre := pr2_at) (f := fm2_at) (r := (some (.inl (fn2_at m v1 v2)), (kw_I m), 0, 0)) ?_ ?_ ?_ ?_
      · exact ⟨m, v1, v2, rfl, rfl, q2.1⟩
      · exact fe2_at m v1 v2
      · exact (am_ac rfl (am_ac rfl (am_ac rfl (am_ac g3 am_a0))))
      refine am_cy (pre := prJ_indexOf) (f := fmJ_indexOf) (a' := [.inr (.inr (22 + 1)), .inl (fn2_at m v1 v2)]) (wc := []) (w' := (kw_I m)) (r := (some (.inl (fnJ_indexOf 22 (fn2_at m v1 v2))), [], 0, 0)) ?_ ?_ ?_ ?_ ?_ ?_ ?_ ?_ ?_ ?_
      · exact am_sow0 _
      · rfl
      · rfl
      · exact am_sub0 _
      · exact ⟨22, (fn2_at m v1 v2), rfl, rfl, q2.2.1⟩
      · exact feJ_indexOf 22 (fn2_at m v1 v2)
      · exact rfl
      · rfl
      · exact am_mix0 _
      refine am_if (c := 0 ≤ (fnJ_indexOf 22 (fn2_at m v1 v2))) (fun h3 => ?_) (fun h3 => ?_)
      · have q3 := q2.2.2.1 h3
        have e : fn7_hasForeignScheme_c2 (fu + 1) m v1 v2 = fn7_hasForeignScheme_c31 m v1 v2 := by
          rw [fn7_hasForeignScheme_c2]
          rw [if_neg h2, if_pos h3]
        rw [e]
        exact i31 m v1 v2 _ g3 q3
      · have q3 := q2.2.2.2 h3
        have e : fn7_hasForeignScheme_c2 (fu + 1) m v1 v2 = fn7_hasForeignScheme_c2 fu m v1 (v2 + (1 : Int32)) := by
          rw [fn7_hasForeignScheme_c2]
          rw [if_neg h2, if_neg h3]
        rw [e]
        exact ih m v1 (v2 + (1 : Int32)) _ g3 q3
noncomputable def fn7_hasForeignScheme (m : qt2) (p1 : Int32) : Int32 := Classical.choose (⟨_, rfl⟩ : ∃ z : Int32, z = (fn7_hasForeignScheme_c2 hg_fu m p1 (0 : Int32)))
theorem fq7_hasForeignScheme (m : qt2) (p1 : Int32) : fn7_hasForeignScheme m p1 = (fn7_hasForeignScheme_c2 hg_fu m p1 (0 : Int32)) := Classical.choose_spec (⟨_, rfl⟩ : ∃ z : Int32, z = (fn7_hasForeignScheme_c2 hg_fu m p1 (0 : Int32)))
def wp7_hasForeignScheme (m : qt2) (p1 : Int32) : Prop := (wp7_hasForeignScheme_c2 hg_fu m p1 (0 : Int32))
set_option maxRecDepth 100000 in
set_option maxHeartbeats 4000000 in
theorem re7_hasForeignScheme (m : qt2) (p1 : Int32) (hp : wp7_hasForeignScheme m p1) : am_lf (am_mk kb7_hasForeignScheme 0 0 5) [2, 31, 77, 82] (0, am_L0 [.inr (.inl 0), .inl p1] 4, [], (kw_I m), 0, 0) = some (some (.inl (fn7_hasForeignScheme m p1)), (kw_I m)) := by
  unfold wp7_hasForeignScheme at hp
  have i2 := @rc7_hasForeignScheme_2
  refine am_lf_eq ?_
  generalize am_lf (am_mk kb7_hasForeignScheme 0 0 5) [2, 31, 77, 82] = kt at i2 ⊢
  have e : fn7_hasForeignScheme m p1 = fn7_hasForeignScheme_c2 hg_fu m p1 (0 : Int32) := by
    rw [fq7_hasForeignScheme]
  rw [e]
  exact i2 hg_fu m p1 (0 : Int32) _ rfl hp
abbrev pr7_hasForeignScheme : List am_V → List am_C → Prop := fun a w => ∃ (m : qt2) (p1 : Int32), a = [.inr (.inl 0), .inl p1] ∧ w = (kw_I m) ∧ wp7_hasForeignScheme m p1
noncomputable def fm7_hasForeignScheme : am_M := fun a w => (fun (z : Int32) => (some (.inl z), (kw_I (qs2 w 0)), 0, 0)) (fn7_hasForeignScheme (qs2 w 0) (am_i (am_an a 1)))
theorem fe7_hasForeignScheme (m : qt2) (p1 : Int32) : fm7_hasForeignScheme [.inr (.inl 0), .inl p1] (kw_I m) = (some (.inl (fn7_hasForeignScheme m p1)), (kw_I m), 0, 0) := rfl
set_option maxRecDepth 100000 in
set_option maxHeartbeats 4000000 in
theorem rn7_hasForeignScheme : ∀ (a : List am_V) (w : List am_C), pr7_hasForeignScheme a w → ∃ nq, am_ev (am_mk kb7_hasForeignScheme (fm7_hasForeignScheme a w).2.2.1 (fm7_hasForeignScheme a w).2.2.2 w.length) [2, 31, 77, 82] nq (0, am_L0 a 4, [], w, 0, 0) = some ((fm7_hasForeignScheme a w).1, (fm7_hasForeignScheme a w).2.1) := by
  rintro a w ⟨m, p1, rfl, rfl, hp⟩
  rw [fe7_hasForeignScheme m p1]
  exact am_lf_ev (re7_hasForeignScheme m p1 hp)
theorem rl7_hasForeignScheme : ∀ (a : List am_V) (w : List am_C), pr7_hasForeignScheme a w → a.length ≤ 4 := by
  rintro a w ⟨m, p1, rfl, rfl, hp⟩
  exact Nat.le_of_ble_eq_true rfl
set_option maxRecDepth 100000 in
set_option maxHeartbeats 4000000 in
theorem km7_hasForeignScheme {l : Launch} {E : (Nat → Prop) → State → Prop} {D : va_G} {ou : Nat → Nat} {ca : Nat → ClassId} (hE : hg_E E ou) : hg_Met l E D ou ca hy7_hasForeignScheme prog_9_method_5_code 4 (some .boolean) 5 pr7_hasForeignScheme fm7_hasForeignScheme := by
  refine am_met (B := kb7_hasForeignScheme) (cuts := [2, 31, 77, 82]) (nt := 5) (by decide +kernel) rfl rfl (hg_tys_ok ca) ?_ (by decide) rl7_hasForeignScheme ?_ rn7_hasForeignScheme
  · exact fun t ht => List.mem_cons_of_mem _ (hg_arr t ht)
  · intro a w hp ad p e R s m args below meth c hR X hEs hnm
    have hR1 : 5 ≤ R.frames ∧ 200 ≤ R.locals := by rw [hR]; exact ⟨Nat.le_refl _, Nat.le_refl _⟩
    have hN := hE.2.1 _ _ hEs
    have hc : ∀ q ∈ kc7_hasForeignScheme, am_LK s hn_R7 args ou q.1 q.2 := am_allc (hg_lk hN.2 22 rfl) (am_allc (hg_lk hN.2 23 rfl) (am_allc (hg_lk hN.2 24 rfl) (am_allc (hg_lk hN.2 25 rfl) (am_all0))))
    refine ⟨kd7_hasForeignScheme_ok, fun index ci fi mode hq => kf7_ok X.2.2.2.2.1 hN.1 (index, ci, fi, mode) (am_as_mem hq), fun index ci fs hq => (am_no hq).elim, fun x v hq => hc (x, v) (am_as_mem hq), ?_, fun o t n f hq => (am_no hq).elim, rfl, rfl, by rw [hR]; exact Nat.le_refl _, by rw [hR]; exact Nat.le_refl _⟩
    intro pc sel n0 pre0 f0 hq
    have hz : ∀ q ∈ ki7_hasForeignScheme, am_CK p l e R s m args below meth c D hn_cl (va_A (am_w ad ou ca w) s.heap.size) ou ca 4 q.1 q.2.2.1 q.2.2.2.1 q.2.2.2.2 := by
      refine am_allc (am_ck_V (n := 1) X hEs hE.1 (km2_length hE) (hg_good (gw_mem 805 (by decide +kernel))) rfl (List.mem_cons_of_mem _ (gw_mem 71 (by decide +kernel))) (List.mem_cons_of_mem _ (gw_mem 802 (by decide +kernel))) (List.mem_cons_of_mem _ (gw_mem 803 (by decide +kernel))) (List.mem_cons_of_mem _ (gw_mem 804 (by decide +kernel))) pa2_length (by decide +kernel) ⟨Nat.le_trans (by decide) hR1.1, Nat.le_trans (by decide) hR1.2⟩ (kd7_hasForeignScheme_ok (5, .invokevirtual 41, 3) (List.mem_of_getElem? (i := 5) rfl))) (am_allc (am_ck_V (n := 2) X hEs hE.1 (km2_at hE) (hg_good (gw_mem 809 (by decide +kernel))) rfl (List.mem_cons_of_mem _ (gw_mem 71 (by decide +kernel))) (List.mem_cons_of_mem _ (gw_mem 806 (by decide +kernel))) (List.mem_cons_of_mem _ (gw_mem 807 (by decide +kernel))) (List.mem_cons_of_mem _ (gw_mem 808 (by decide +kernel))) pa2_at (by decide +kernel) ⟨Nat.le_trans (by decide) hR1.1, Nat.le_trans (by decide) hR1.2⟩ (kd7_hasForeignScheme_ok (16, .invokevirtual 47, 3) (List.mem_of_getElem? (i := 11) rfl))) (am_allc (am_ck_VS (n := 1) X hEs hE (kmJ_indexOf hE) (hg_good (gw_mem 830 (by decide +kernel))) rfl (List.mem_cons_of_mem _ (gw_mem 83 (by decide +kernel))) (List.mem_cons_of_mem _ (gw_mem 827 (by decide +kernel))) (List.mem_cons_of_mem _ (gw_mem 828 (by decide +kernel))) (List.mem_cons_of_mem _ (gw_mem 829 (by decide +kernel))) rfl paJ_indexOf (by decide +kernel) ⟨Nat.le_trans (by decide) hR1.1, Nat.le_trans (by decide) hR1.2⟩ (kd7_hasForeignScheme_ok (19, .invokevirtual 72, 3) (List.mem_of_getElem? (i := 12) rfl))) (am_allc (am_ck_V (n := 2) X hEs hE.1 (km2_at hE) (hg_good (gw_mem 809 (by decide +kernel))) rfl (List.mem_cons_of_mem _ (gw_mem 71 (by decide +kernel))) (List.mem_cons_of_mem _ (gw_mem 806 (by decide +kernel))) (List.mem_cons_of_mem _ (gw_mem 807 (by decide +kernel))) (List.mem_cons_of_mem _ (gw_mem 808 (by decide +kernel))) pa2_at (by decide +kernel) ⟨Nat.le_trans (by decide) hR1.1, Nat.le_trans (by decide) hR1.2⟩ (kd7_hasForeignScheme_ok (34, .invokevirtual 47, 3) (List.mem_of_getElem? (i := 19) rfl))) (am_allc (am_ck_V (n := 3) X hEs hE.1 (km2_begins hE) (hg_good (gw_mem 888 (by decide +kernel))) rfl (List.mem_cons_of_mem _ (gw_mem 71 (by decide +kernel))) (List.mem_cons_of_mem _ (gw_mem 885 (by decide +kernel))) (List.mem_cons_of_mem _ (gw_mem 886 (by decide +kernel))) (List.mem_cons_of_mem _ (gw_mem 887 (by decide +kernel))) pa2_begins (by decide +kernel) ⟨Nat.le_trans (by decide) hR1.1, Nat.le_trans (by decide) hR1.2⟩ (kd7_hasForeignScheme_ok (49, .invokevirtual 87, 3) (List.mem_of_getElem? (i := 28) rfl))) (am_allc (am_ck_V (n := 3) X hEs hE.1 (km2_begins hE) (hg_good (gw_mem 888 (by decide +kernel))) rfl (List.mem_cons_of_mem _ (gw_mem 71 (by decide +kernel))) (List.mem_cons_of_mem _ (gw_mem 885 (by decide +kernel))) (List.mem_cons_of_mem _ (gw_mem 886 (by decide +kernel))) (List.mem_cons_of_mem _ (gw_mem 887 (by decide +kernel))) pa2_begins (by decide +kernel) ⟨Nat.le_trans (by decide) hR1.1, Nat.le_trans (by decide) hR1.2⟩ (kd7_hasForeignScheme_ok (60, .invokevirtual 87, 3) (List.mem_of_getElem? (i := 34) rfl))) (am_allc (am_ck_V (n := 3) X hEs hE.1 (km2_begins hE) (hg_good (gw_mem 888 (by decide +kernel))) rfl (List.mem_cons_of_mem _ (gw_mem 71 (by decide +kernel))) (List.mem_cons_of_mem _ (gw_mem 885 (by decide +kernel))) (List.mem_cons_of_mem _ (gw_mem 886 (by decide +kernel))) (List.mem_cons_of_mem _ (gw_mem 887 (by decide +kernel))) pa2_begins (by decide +kernel) ⟨Nat.le_trans (by decide) hR1.1, Nat.le_trans (by decide) hR1.2⟩ (kd7_hasForeignScheme_ok (71, .invokevirtual 87, 3) (List.mem_of_getElem? (i := 40) rfl))) (am_all0)))))))
    exact hz _ (am_as_mem hq)
noncomputable def ki7_putUrl : List (Nat × Option (List Nat) × Nat × (List am_V → List am_C → Prop) × am_M) := [(7, some [2, 3, 4, 5, 6], 2, pr2_length, fm2_length), (17, some [2, 3, 4, 5, 6], 3, pr2_at, fm2_at), (24, some [], 1, pr4_isLetterOrDigit, fm4_isLetterOrDigit), (34, some [], 2, prJ_indexOf, fmJ_indexOf), (43, some [0, 1], 2, pr6_put, fm6_put), (59, some [], 2, prJ_indexOf, fmJ_indexOf), (68, some [0, 1], 2, pr6_put, fm6_put), (90, some [0, 1], 2, pr6_putAll, fm6_putAll), (99, some [0, 1], 2, pr6_put, fm6_put), (106, some [0, 1], 2, pr6_putHex, fm6_putHex)]
def kc7_putUrl : List (Nat × am_V) := [(51, .inr (.inr (17 + 1))), (70, .inr (.inr (27 + 1))), (77, .inr (.inr (28 + 1)))]
noncomputable def kb7_putUrl : am_B := (kd7_putUrl, am_as kf7, hn_ty, fun _ => none, am_as kc7_putUrl, am_as ki7_putUrl, fun _ => none, 5, 6, none)
noncomputable def fn7_putUrl_c3 : Nat → qt6 → qt2 → Int32 → Int32 → Int32 → qt6
  | 0, t, _, _, _, _ => t
  | fu + 1, t, m, v2, v3, v4 => (if (fn2_length m v2) ≤ v4 then t else (if (fn4_isLetterOrDigit (fn2_at m v2 v4)) = 0 then (if (fnJ_indexOf 27 (fn2_at m v2 v4)) < 0 then (if (2 : Int32) ≤ v3 then (fn7_putUrl_c3 fu (fn6_putHex 1000 ((fn6_put 1000 t (37 : Int32)).2) (fn2_at m v2 v4)) m v2 v3 (v4 + (1 : Int32))) else (if (fnJ_indexOf 28 (fn2_at m v2 v4)) < 0 then (if (fn2_at m v2 v4) = (38 : Int32) then (fn7_putUrl_c3 fu (fn6_putAll 1000 t 17) m v2 v3 (v4 + (1 : Int32))) else (fn7_putUrl_c3 fu (fn6_putHex 1000 ((fn6_put 1000 t (37 : Int32)).2) (fn2_at m v2 v4)) m v2 v3 (v4 + (1 : Int32)))) else (fn7_putUrl_c3 fu ((fn6_put 1000 t (fn2_at m v2 v4)).2) m v2 v3 (v4 + (1 : Int32))))) else (fn7_putUrl_c3 fu ((fn6_put 1000 t (fn2_at m v2 v4)).2) m v2 v3 (v4 + (1 : Int32)))) else (fn7_putUrl_c3 fu ((fn6_put 1000 t (fn2_at m v2 v4)).2) m v2 v3 (v4 + (1 : Int32)))))
def wp7_putUrl_c3 : Nat → qt6 → qt2 → Int32 → Int32 → Int32 → Prop
  | 0, _, _, _, _, _ => False
  | fu + 1, t, m, v2, v3, v4 => ((wp2_length m v2) ∧ (((fn2_length m v2) ≤ v4 → True) ∧ (¬ (fn2_length m v2) ≤ v4 → ((wp2_at m v2 v4) ∧ ((wp4_isLetterOrDigit (fn2_at m v2 v4)) ∧ (((fn4_isLetterOrDigit (fn2_at m v2 v4)) = 0 → ((wpJ_indexOf 27 (fn2_at m v2 v4)) ∧ (((fnJ_indexOf 27 (fn2_at m v2 v4)) < 0 → (((2 : Int32) ≤ v3 → ((wp6_put 1000 t (37 : Int32)) ∧ ((wp6_putHex 1000 ((fn6_put 1000 t (37 : Int32)).2) (fn2_at m v2 v4)) ∧ (wp7_putUrl_c3 fu (fn6_putHex 1000 ((fn6_put 1000 t (37 : Int32)).2) (fn2_at m v2 v4)) m v2 v3 (v4 + (1 : Int32)))))) ∧ (¬ (2 : Int32) ≤ v3 → ((wpJ_indexOf 28 (fn2_at m v2 v4)) ∧ (((fnJ_indexOf 28 (fn2_at m v2 v4)) < 0 → (((fn2_at m v2 v4) = (38 : Int32) → ((wp6_putAll 1000 t 17) ∧ (wp7_putUrl_c3 fu (fn6_putAll 1000 t 17) m v2 v3 (v4 + (1 : Int32))))) ∧ (¬ (fn2_at m v2 v4) = (38 : Int32) → ((wp6_put 1000 t (37 : Int32)) ∧ ((wp6_putHex 1000 ((fn6_put 1000 t (37 : Int32)).2) (fn2_at m v2 v4)) ∧ (wp7_putUrl_c3 fu (fn6_putHex 1000 ((fn6_put 1000 t (37 : Int32)).2) (fn2_at m v2 v4)) m v2 v3 (v4 + (1 : Int32)))))))) ∧ (¬ (fnJ_indexOf 28 (fn2_at m v2 v4)) < 0 → ((wp6_put 1000 t (fn2_at m v2 v4)) ∧ (wp7_putUrl_c3 fu ((fn6_put 1000 t (fn2_at m v2 v4)).2) m v2 v3 (v4 + (1 : Int32)))))))))) ∧ (¬ (fnJ_indexOf 27 (fn2_at m v2 v4)) < 0 → ((wp6_put 1000 t (fn2_at m v2 v4)) ∧ (wp7_putUrl_c3 fu ((fn6_put 1000 t (fn2_at m v2 v4)).2) m v2 v3 (v4 + (1 : Int32)))))))) ∧ (¬ (fn4_isLetterOrDigit (fn2_at m v2 v4)) = 0 → ((wp6_put 1000 t (fn2_at m v2 v4)) ∧ (wp7_putUrl_c3 fu ((fn6_put 1000 t (fn2_at m v2 v4)).2) m v2 v3 (v4 + (1 : Int32)))))))))))
set_option maxRecDepth 100000 in
set_option maxHeartbeats 4000000 in
theorem rc7_putUrl_3 : ∀ (fu : Nat) (t : qt6) (m : qt2) (v2 : Int32) (v3 : Int32) (v4 : Int32) (j5 : Option am_V) (g5 : am_loO 7 j5 = true) , wp7_putUrl_c3 fu t m v2 v3 v4 → am_lf (am_mk kb7_putUrl 0 0 7) [3] (3, [some (.inr (.inl 0)), some (.inr (.inl 2)), some (.inl v2), some (.inl v3), some (.inl v4), j5], [], (kw_TI t m), 0, 0) = some (none, (kw_TI (fn7_putUrl_c3 fu t m v2 v3 v4) m)) := by
  intro fu
  induction fu with
  | zero =>
    intro t m v2 v3 v4 j5 g5 hp
    exact hp.elim
  | succ fu ih =>
    intro t m v2 v3 v4 j5 g5 hp
    unfold wp7_putUrl_c3 at hp
    refine am_lf_eq ?_
    generalize am_lf (am_mk kb7_putUrl 0 0 7) [3] = kt at ih ⊢
    refine am_cy (pre := pr2_length) (f := fm2_length) (a' := [.inr (.inl 0), .inl v2]) (wc := (kw_I m)) (w' := (kw_TI t m)) (r := (some (.inl (fn2_length m v2)), (kw_I m), 0, 0)) ?_ ?_ ?_ ?_ ?_ ?_ ?_ ?_ ?_ ?_
    · exact ks_TI_I_1_o t m
    · rfl
    · rfl
    · exact ks_TI_I_1_s t m
    · exact ⟨m, v2, rfl, rfl, hp.1⟩
    · exact fe2_length m v2
    · exact kwl_I m
    · rfl
    · exact ks_TI_I_1_m t m m
    refine am_if (c := (fn2_length m v2) ≤ v4) (fun h2 => ?_) (fun h2 => ?_)
    · have e : fn7_putUrl_c3 (fu + 1) t m v2 v3 v4 = t := by
        rw [fn7_putUrl_c3]
        rw [if_pos h2]
      rw [e] <;> rfl
    · have q2 := hp.2.2 h2
      refine am_cy (pre := pr2_at) (f := fm2_at) (a' := [.inr (.inl 0), .inl v2, .inl v4]) (wc := (kw_I m)) (w' := (kw_TI t m)) (r := (some (.inl (fn2_at m v2 v4)), (kw_I m), 0, 0)) ?_ ?_ ?_ ?_ ?_ ?_ ?_ ?_ ?_ ?_
      · exact ks_TI_I_1_o t m
      · rfl
      · rfl
      · exact ks_TI_I_1_s t m
      · exact ⟨m, v2, v4, rfl, rfl, q2.1⟩
      · exact fe2_at m v2 v4
      · exact kwl_I m
      · rfl
      · exact ks_TI_I_1_m t m m
      refine am_cy (pre := pr4_isLetterOrDigit) (f := fm4_isLetterOrDigit) (a' := [.inl (fn2_at m v2 v4)]) (wc := []) (w' := (kw_TI t m)) (r := (some (.inl (fn4_isLetterOrDigit (fn2_at m v2 v4))), [], 0, 0)) ?_ ?_ ?_ ?_ ?_ ?_ ?_ ?_ ?_ ?_
      · exact am_sow0 _
      · rfl
      · rfl
      · exact am_sub0 _
      · exact ⟨(fn2_at m v2 v4), rfl, rfl, q2.2.1⟩
      · exact fe4_isLetterOrDigit (fn2_at m v2 v4)
      · exact rfl
      · rfl
      · exact am_mix0 _
      refine am_if (c := (fn4_isLetterOrDigit (fn2_at m v2 v4)) = 0) (fun h3 => ?_) (fun h3 => ?_)
      · have q3 := q2.2.2.1 h3
        refine am_cy (pre := prJ_indexOf) (f := fmJ_indexOf) (a' := [.inr (.inr (27 + 1)), .inl (fn2_at m v2 v4)]) (wc := []) (w' := (kw_TI t m)) (r := (some (.inl (fnJ_indexOf 27 (fn2_at m v2 v4))), [], 0, 0)) ?_ ?_ ?_ ?_ ?_ ?_ ?_ ?_ ?_ ?_
        · exact am_sow0 _
        · rfl
        · rfl
        · exact am_sub0 _
        · exact ⟨27, (fn2_at m v2 v4), rfl, rfl, q3.1⟩
        · exact feJ_indexOf 27 (fn2_at m v2 v4)
        · exact rfl
        · rfl
        · exact am_mix0 _
        refine am_if (c := (fnJ_indexOf 27 (fn2_at m v2 v4)) < 0) (fun h4 => ?_) (fun h4 => ?_)
        · have q4 := q3.2.1 h4
          refine am_if (c := (2 : Int32) ≤ v3) (fun h5 => ?_) (fun h5 => ?_)
          · have q5 := q4.1 h5
            refine am_ci (c := (2 : Int32) ≤ v3) (by assumption) ?_
            refine am_cy (pre := pr6_put) (f := fm6_put) (a' := [.inr (.inl 0), .inl (37 : Int32)]) (wc := (kw_T 1000 t)) (w' := (kw_TI ((fn6_put 1000 t (37 : Int32)).2) m)) (r := (some (.inl ((fn6_put 1000 t (37 : Int32)).1)), (kw_T 1000 ((fn6_put 1000 t (37 : Int32)).2)), 0, 0)) ?_ ?_ ?_ ?_ ?_ ?_ ?_ ?_ ?_ ?_
            · exact ks_TI_T_0_o t m
            · rfl
            · rfl
            · exact ks_TI_T_0_s t m
            · exact ⟨1000, t, (37 : Int32), rfl, rfl, q5.1⟩
            · exact fe6_put 1000 t (37 : Int32)
            · exact kwl_T 1000 ((fn6_put 1000 t (37 : Int32)).2)
            · rfl
            · exact ks_TI_T_0_m t m ((fn6_put 1000 t (37 : Int32)).2)
            refine am_cy (pre := pr6_putHex) (f := fm6_putHex) (a' := [.inr (.inl 0), .inl (fn2_at m v2 v4)]) (wc := (kw_T 1000 ((fn6_put 1000 t (37 : Int32)).2))) (w' := (kw_TI (fn6_putHex 1000 ((fn6_put 1000 t (37 : Int32)).2) (fn2_at m v2 v4)) m)) (r := (none, (kw_T 1000 (fn6_putHex 1000 ((fn6_put 1000 t (37 : Int32)).2) (fn2_at m v2 v4))), 0, 0)) ?_ ?_ ?_ ?_ ?_ ?_ ?_ ?_ ?_ ?_
            · exact ks_TI_T_0_o ((fn6_put 1000 t (37 : Int32)).2) m
            · rfl
            · rfl
            · exact ks_TI_T_0_s ((fn6_put 1000 t (37 : Int32)).2) m
            · exact ⟨1000, (fn6_put 1000 t (37 : Int32)).2, (fn2_at m v2 v4), rfl, rfl, q5.2.1⟩
            · exact fe6_putHex 1000 ((fn6_put 1000 t (37 : Int32)).2) (fn2_at m v2 v4)
            · exact kwl_T 1000 (fn6_putHex 1000 ((fn6_put 1000 t (37 : Int32)).2) (fn2_at m v2 v4))
            · rfl
            · exact ks_TI_T_0_m ((fn6_put 1000 t (37 : Int32)).2) m (fn6_putHex 1000 ((fn6_put 1000 t (37 : Int32)).2) (fn2_at m v2 v4))
            have e : fn7_putUrl_c3 (fu + 1) t m v2 v3 v4 = fn7_putUrl_c3 fu (fn6_putHex 1000 ((fn6_put 1000 t (37 : Int32)).2) (fn2_at m v2 v4)) m v2 v3 (v4 + (1 : Int32)) := by
              rw [fn7_putUrl_c3]
              rw [if_neg h2, if_pos h3, if_pos h4, if_pos h5]
            rw [e]
            exact ih (fn6_putHex 1000 ((fn6_put 1000 t (37 : Int32)).2) (fn2_at m v2 v4)) m v2 v3 (v4 + (1 : Int32)) _ rfl q5.2.2
          · have q5 := q4.2 h5
            refine am_cy (pre := prJ_indexOf) (f := fmJ_indexOf) (a' := [.inr (.inr (28 + 1)), .inl (fn2_at m v2 v4)]) (wc := []) (w' := (kw_TI t m)) (r := (some (.inl (fnJ_indexOf 28 (fn2_at m v2 v4))), [], 0, 0)) ?_ ?_ ?_ ?_ ?_ ?_ ?_ ?_ ?_ ?_
            · exact am_sow0 _
            · rfl
            · rfl
            · exact am_sub0 _
            · exact ⟨28, (fn2_at m v2 v4), rfl, rfl, q5.1⟩
            · exact feJ_indexOf 28 (fn2_at m v2 v4)
            · exact rfl
            · rfl
            · exact am_mix0 _
            refine am_if (c := (fnJ_indexOf 28 (fn2_at m v2 v4)) < 0) (fun h6 => ?_) (fun h6 => ?_)
            · have q6 := q5.2.1 h6
              refine am_cn (c := (2 : Int32) ≤ v3) (by assumption) ?_
              refine am_if (c := (fn2_at m v2 v4) = (38 : Int32)) (fun h7 => ?_) (fun h7 => ?_)
              · have q7 := q6.1 h7
                refine am_cy (pre := pr6_putAll) (f := fm6_putAll) (a' := [.inr (.inl 0), .inr (.inr (17 + 1))]) (wc := (kw_T 1000 t)) (w' := (kw_TI (fn6_putAll 1000 t 17) m)) (r := (none, (kw_T 1000 (fn6_putAll 1000 t 17)), 0, 0)) ?_ ?_ ?_ ?_ ?_ ?_ ?_ ?_ ?_ ?_
                · exact ks_TI_T_0_o t m
                · rfl
                · rfl
                · exact ks_TI_T_0_s t m
                · exact ⟨1000, t, 17, rfl, rfl, q7.1⟩
                · exact fe6_putAll 1000 t 17
                · exact kwl_T 1000 (fn6_putAll 1000 t 17)
                · rfl
                · exact ks_TI_T_0_m t m (fn6_putAll 1000 t 17)
                have e : fn7_putUrl_c3 (fu + 1) t m v2 v3 v4 = fn7_putUrl_c3 fu (fn6_putAll 1000 t 17) m v2 v3 (v4 + (1 : Int32)) := by
                  rw [fn7_putUrl_c3]
                  rw [if_neg h2, if_pos h3, if_pos h4, if_neg h5, if_pos h6, if_pos h7]
                rw [e]
                exact ih (fn6_putAll 1000 t 17) m v2 v3 (v4 + (1 : Int32)) _ rfl q7.2
              · have q7 := q6.2 h7
                refine am_cy (pre := pr6_put) (f := fm6_put) (a' := [.inr (.inl 0), .inl (37 : Int32)]) (wc := (kw_T 1000 t)) (w' := (kw_TI ((fn6_put 1000 t (37 : Int32)).2) m)) (r := (some (.inl ((fn6_put 1000 t (37 : Int32)).1)), (kw_T 1000 ((fn6_put 1000 t (37 : Int32)).2)), 0, 0)) ?_ ?_ ?_ ?_ ?_ ?_ ?_ ?_ ?_ ?_
                · exact ks_TI_T_0_o t m
                · rfl
                · rfl
                · exact ks_TI_T_0_s t m
                · exact ⟨1000, t, (37 : Int32), rfl, rfl, q7.1⟩
                · exact fe6_put 1000 t (37 : Int32)
                · exact kwl_T 1000 ((fn6_put 1000 t (37 : Int32)).2)
                · rfl
                · exact ks_TI_T_0_m t m ((fn6_put 1000 t (37 : Int32)).2)
                refine am_cy (pre := pr6_putHex) (f := fm6_putHex) (a' := [.inr (.inl 0), .inl (fn2_at m v2 v4)]) (wc := (kw_T 1000 ((fn6_put 1000 t (37 : Int32)).2))) (w' := (kw_TI (fn6_putHex 1000 ((fn6_put 1000 t (37 : Int32)).2) (fn2_at m v2 v4)) m)) (r := (none, (kw_T 1000 (fn6_putHex 1000 ((fn6_put 1000 t (37 : Int32)).2) (fn2_at m v2 v4))), 0, 0)) ?_ ?_ ?_ ?_ ?_ ?_ ?_ ?_ ?_ ?_
                · exact ks_TI_T_0_o ((fn6_put 1000 t (37 : Int32)).2) m
                · rfl
                · rfl
                · exact ks_TI_T_0_s ((fn6_put 1000 t (37 : Int32)).2) m
                · exact ⟨1000, (fn6_put 1000 t (37 : Int32)).2, (fn2_at m v2 v4), rfl, rfl, q7.2.1⟩
                · exact fe6_putHex 1000 ((fn6_put 1000 t (37 : Int32)).2) (fn2_at m v2 v4)
                · exact kwl_T 1000 (fn6_putHex 1000 ((fn6_put 1000 t (37 : Int32)).2) (fn2_at m v2 v4))
                · rfl
                · exact ks_TI_T_0_m ((fn6_put 1000 t (37 : Int32)).2) m (fn6_putHex 1000 ((fn6_put 1000 t (37 : Int32)).2) (fn2_at m v2 v4))
                have e : fn7_putUrl_c3 (fu + 1) t m v2 v3 v4 = fn7_putUrl_c3 fu (fn6_putHex 1000 ((fn6_put 1000 t (37 : Int32)).2) (fn2_at m v2 v4)) m v2 v3 (v4 + (1 : Int32)) := by
                  rw [fn7_putUrl_c3]
                  rw [if_neg h2, if_pos h3, if_pos h4, if_neg h5, if_pos h6, if_neg h7]
                rw [e]
                exact ih (fn6_putHex 1000 ((fn6_put 1000 t (37 : Int32)).2) (fn2_at m v2 v4)) m v2 v3 (v4 + (1 : Int32)) _ rfl q7.2.2
            · have q6 := q5.2.2 h6
              refine am_cy (pre := pr6_put) (f := fm6_put) (a' := [.inr (.inl 0), .inl (fn2_at m v2 v4)]) (wc := (kw_T 1000 t)) (w' := (kw_TI ((fn6_put 1000 t (fn2_at m v2 v4)).2) m)) (r := (some (.inl ((fn6_put 1000 t (fn2_at m v2 v4)).1)), (kw_T 1000 ((fn6_put 1000 t (fn2_at m v2 v4)).2)), 0, 0)) ?_ ?_ ?_ ?_ ?_ ?_ ?_ ?_ ?_ ?_
              · exact ks_TI_T_0_o t m
              · rfl
              · rfl
              · exact ks_TI_T_0_s t m
              · exact ⟨1000, t, (fn2_at m v2 v4), rfl, rfl, q6.1⟩
              · exact fe6_put 1000 t (fn2_at m v2 v4)
              · exact kwl_T 1000 ((fn6_put 1000 t (fn2_at m v2 v4)).2)
              · rfl
              · exact ks_TI_T_0_m t m ((fn6_put 1000 t (fn2_at m v2 v4)).2)
              have e : fn7_putUrl_c3 (fu + 1) t m v2 v3 v4 = fn7_putUrl_c3 fu ((fn6_put 1000 t (fn2_at m v2 v4)).2) m v2 v3 (v4 + (1 : Int32)) := by
                rw [fn7_putUrl_c3]
                rw [if_neg h2, if_pos h3, if_pos h4, if_neg h5, if_neg h6]
              rw [e]
              exact ih ((fn6_put 1000 t (fn2_at m v2 v4)).2) m v2 v3 (v4 + (1 : Int32)) _ rfl q6.2
        · have q4 := q3.2.2 h4
          refine am_cy (pre := pr6_put) (f := fm6_put) (a' := [.inr (.inl 0), .inl (fn2_at m v2 v4)]) (wc := (kw_T 1000 t)) (w' := (kw_TI ((fn6_put 1000 t (fn2_at m v2 v4)).2) m)) (r := (some (.inl ((fn6_put 1000 t (fn2_at m v2 v4)).1)), (kw_T 1000 ((fn6_put 1000 t (fn2_at m v2 v4)).2)), 0, 0)) ?_ ?_ ?_ ?_ ?_ ?_ ?_ ?_ ?_ ?_
          · exact ks_TI_T_0_o t m
          · rfl
          · rfl
          · exact ks_TI_T_0_s t m
          · exact ⟨1000, t, (fn2_at m v2 v4), rfl, rfl, q4.1⟩
          · exact fe6_put 1000 t (fn2_at m v2 v4)
          · exact kwl_T 1000 ((fn6_put 1000 t (fn2_at m v2 v4)).2)
          · rfl
          · exact ks_TI_T_0_m t m ((fn6_put 1000 t (fn2_at m v2 v4)).2)
          have e : fn7_putUrl_c3 (fu + 1) t m v2 v3 v4 = fn7_putUrl_c3 fu ((fn6_put 1000 t (fn2_at m v2 v4)).2) m v2 v3 (v4 + (1 : Int32)) := by
            rw [fn7_putUrl_c3]
            rw [if_neg h2, if_pos h3, if_neg h4]
          rw [e]
          exact ih ((fn6_put 1000 t (fn2_at m v2 v4)).2) m v2 v3 (v4 + (1 : Int32)) _ rfl q4.2
      · have q3 := q2.2.2.2 h3
        refine am_cy (pre := pr6_put) (f := fm6_put) (a' := [.inr (.inl 0), .inl (fn2_at m v2 v4)]) (wc := (kw_T 1000 t)) (w' := (kw_TI ((fn6_put 1000 t (fn2_at m v2 v4)).2) m)) (r := (some (.inl ((fn6_put 1000 t (fn2_at m v2 v4)).1)), (kw_T 1000 ((fn6_put 1000 t (fn2_at m v2 v4)).2)), 0, 0)) ?_ ?_ ?_ ?_ ?_ ?_ ?_ ?_ ?_ ?_
        · exact ks_TI_T_0_o t m
        · rfl
        · rfl
        · exact ks_TI_T_0_s t m
        · exact ⟨1000, t, (fn2_at m v2 v4), rfl, rfl, q3.1⟩
        · exact fe6_put 1000 t (fn2_at m v2 v4)
        · exact kwl_T 1000 ((fn6_put 1000 t (fn2_at m v2 v4)).2)
        · rfl
        · exact ks_TI_T_0_m t m ((fn6_put 1000 t (fn2_at m v2 v4)).2)
        have e : fn7_putUrl_c3 (fu + 1) t m v2 v3 v4 = fn7_putUrl_c3 fu ((fn6_put 1000 t (fn2_at m v2 v4)).2) m v2 v3 (v4 + (1 : Int32)) := by
          rw [fn7_putUrl_c3]
          rw [if_neg h2, if_neg h3]
        rw [e]
        exact ih ((fn6_put 1000 t (fn2_at m v2 v4)).2) m v2 v3 (v4 + (1 : Int32)) _ rfl q3.2
noncomputable def fn7_putUrl (t : qt6) (m : qt2) (p2 : Int32) (p3 : Int32) : qt6 := Classical.choose (⟨_, rfl⟩ : ∃ z : qt6, z = (fn7_putUrl_c3 hg_fu t m p2 p3 (0 : Int32)))
theorem fq7_putUrl (t : qt6) (m : qt2) (p2 : Int32) (p3 : Int32) : fn7_putUrl t m p2 p3 = (fn7_putUrl_c3 hg_fu t m p2 p3 (0 : Int32)) := Classical.choose_spec (⟨_, rfl⟩ : ∃ z : qt6, z = (fn7_putUrl_c3 hg_fu t m p2 p3 (0 : Int32)))
def wp7_putUrl (t : qt6) (m : qt2) (p2 : Int32) (p3 : Int32) : Prop := (wp7_putUrl_c3 hg_fu t m p2 p3 (0 : Int32))
set_option maxRecDepth 100000 in
set_option maxHeartbeats 4000000 in
theorem re7_putUrl (t : qt6) (m : qt2) (p2 : Int32) (p3 : Int32) (hp : wp7_putUrl t m p2 p3) : am_lf (am_mk kb7_putUrl 0 0 7) [3] (0, am_L0 [.inr (.inl 0), .inr (.inl 2), .inl p2, .inl p3] 6, [], (kw_TI t m), 0, 0) = some (none, (kw_TI (fn7_putUrl t m p2 p3) m)) := by
  unfold wp7_putUrl at hp
  have i3 := @rc7_putUrl_3
  refine am_lf_eq ?_
  generalize am_lf (am_mk kb7_putUrl 0 0 7) [3] = kt at i3 ⊢
  have e : fn7_putUrl t m p2 p3 = fn7_putUrl_c3 hg_fu t m p2 p3 (0 : Int32) := by
    rw [fq7_putUrl]
  rw [e]
  exact i3 hg_fu t m p2 p3 (0 : Int32) _ rfl hp
abbrev pr7_putUrl : List am_V → List am_C → Prop := fun a w => ∃ (t : qt6) (m : qt2) (p2 : Int32) (p3 : Int32), a = [.inr (.inl 0), .inr (.inl 2), .inl p2, .inl p3] ∧ w = (kw_TI t m) ∧ wp7_putUrl t m p2 p3
noncomputable def fm7_putUrl : am_M := fun a w => (fun (z : qt6) => (none, (kw_TI z (qs2 w 2)), 0, 0)) (fn7_putUrl (qs6 w 0) (qs2 w 2) (am_i (am_an a 2)) (am_i (am_an a 3)))
theorem fe7_putUrl (t : qt6) (m : qt2) (p2 : Int32) (p3 : Int32) : fm7_putUrl [.inr (.inl 0), .inr (.inl 2), .inl p2, .inl p3] (kw_TI t m) = (none, (kw_TI (fn7_putUrl t m p2 p3) m), 0, 0) := rfl
set_option maxRecDepth 100000 in
set_option maxHeartbeats 4000000 in
theorem rn7_putUrl : ∀ (a : List am_V) (w : List am_C), pr7_putUrl a w → ∃ nq, am_ev (am_mk kb7_putUrl (fm7_putUrl a w).2.2.1 (fm7_putUrl a w).2.2.2 w.length) [3] nq (0, am_L0 a 6, [], w, 0, 0) = some ((fm7_putUrl a w).1, (fm7_putUrl a w).2.1) := by
  rintro a w ⟨t, m, p2, p3, rfl, rfl, hp⟩
  rw [fe7_putUrl t m p2 p3]
  exact am_lf_ev (re7_putUrl t m p2 p3 hp)
theorem rl7_putUrl : ∀ (a : List am_V) (w : List am_C), pr7_putUrl a w → a.length ≤ 6 := by
  rintro a w ⟨t, m, p2, p3, rfl, rfl, hp⟩
  exact Nat.le_of_ble_eq_true rfl
set_option maxRecDepth 100000 in
set_option maxHeartbeats 4000000 in
theorem km7_putUrl {l : Launch} {E : (Nat → Prop) → State → Prop} {D : va_G} {ou : Nat → Nat} {ca : Nat → ClassId} (hE : hg_E E ou) : hg_Met l E D ou ca hy7_putUrl prog_9_method_4_code 6 none 6 pr7_putUrl fm7_putUrl := by
  refine am_met (B := kb7_putUrl) (cuts := [3]) (nt := 5) (by decide +kernel) rfl rfl (hg_tys_ok ca) ?_ (by decide) rl7_putUrl ?_ rn7_putUrl
  · exact fun t ht => List.mem_cons_of_mem _ (hg_arr t ht)
  · intro a w hp ad p e R s m args below meth c hR X hEs hnm
    have hR1 : 6 ≤ R.frames ∧ 240 ≤ R.locals := by rw [hR]; exact ⟨Nat.le_refl _, Nat.le_refl _⟩
    have hN := hE.2.1 _ _ hEs
    have hc : ∀ q ∈ kc7_putUrl, am_LK s hn_R7 args ou q.1 q.2 := am_allc (hg_lk hN.2 17 rfl) (am_allc (hg_lk hN.2 27 rfl) (am_allc (hg_lk hN.2 28 rfl) (am_all0)))
    refine ⟨kd7_putUrl_ok, fun index ci fi mode hq => kf7_ok X.2.2.2.2.1 hN.1 (index, ci, fi, mode) (am_as_mem hq), fun index ci fs hq => (am_no hq).elim, fun x v hq => hc (x, v) (am_as_mem hq), ?_, fun o t n f hq => (am_no hq).elim, rfl, rfl, by rw [hR]; exact Nat.le_refl _, by rw [hR]; exact Nat.le_refl _⟩
    intro pc sel n0 pre0 f0 hq
    have hz : ∀ q ∈ ki7_putUrl, am_CK p l e R s m args below meth c D hn_cl (va_A (am_w ad ou ca w) s.heap.size) ou ca 6 q.1 q.2.2.1 q.2.2.2.1 q.2.2.2.2 := by
      refine am_allc (am_ck_V (n := 1) X hEs hE.1 (km2_length hE) (hg_good (gw_mem 805 (by decide +kernel))) rfl (List.mem_cons_of_mem _ (gw_mem 71 (by decide +kernel))) (List.mem_cons_of_mem _ (gw_mem 802 (by decide +kernel))) (List.mem_cons_of_mem _ (gw_mem 803 (by decide +kernel))) (List.mem_cons_of_mem _ (gw_mem 804 (by decide +kernel))) pa2_length (by decide +kernel) ⟨Nat.le_trans (by decide) hR1.1, Nat.le_trans (by decide) hR1.2⟩ (kd7_putUrl_ok (7, .invokevirtual 41, 3) (List.mem_of_getElem? (i := 5) rfl))) (am_allc (am_ck_V (n := 2) X hEs hE.1 (km2_at hE) (hg_good (gw_mem 809 (by decide +kernel))) rfl (List.mem_cons_of_mem _ (gw_mem 71 (by decide +kernel))) (List.mem_cons_of_mem _ (gw_mem 806 (by decide +kernel))) (List.mem_cons_of_mem _ (gw_mem 807 (by decide +kernel))) (List.mem_cons_of_mem _ (gw_mem 808 (by decide +kernel))) pa2_at (by decide +kernel) ⟨Nat.le_trans (by decide) hR1.1, Nat.le_trans (by decide) hR1.2⟩ (kd7_putUrl_ok (17, .invokevirtual 47, 3) (List.mem_of_getElem? (i := 10) rfl))) (am_allc (am_ck_S (n := 1) X hEs hE.1 (km4_isLetterOrDigit hE) (hg_good (gw_mem 358 (by decide +kernel))) rfl (List.mem_cons_of_mem _ (gw_mem 77 (by decide +kernel))) (List.mem_cons_of_mem _ (gw_mem 901 (by decide +kernel))) (List.mem_cons_of_mem _ (gw_mem 357 (by decide +kernel))) (by decide +kernel) ⟨Nat.le_trans (by decide) hR1.1, Nat.le_trans (by decide) hR1.2⟩ (kd7_putUrl_ok (24, .invokestatic 65, 3) (List.mem_of_getElem? (i := 13) rfl))) (am_allc (am_ck_VS (n := 1) X hEs hE (kmJ_indexOf hE) (hg_good (gw_mem 830 (by decide +kernel))) rfl (List.mem_cons_of_mem _ (gw_mem 83 (by decide +kernel))) (List.mem_cons_of_mem _ (gw_mem 827 (by decide +kernel))) (List.mem_cons_of_mem _ (gw_mem 828 (by decide +kernel))) (List.mem_cons_of_mem _ (gw_mem 829 (by decide +kernel))) rfl paJ_indexOf (by decide +kernel) ⟨Nat.le_trans (by decide) hR1.1, Nat.le_trans (by decide) hR1.2⟩ (kd7_putUrl_ok (34, .invokevirtual 72, 3) (List.mem_of_getElem? (i := 17) rfl))) (am_allc (am_ck_V (n := 1) X hEs hE.1 (km6_put hE) (hg_good (gw_mem 290 (by decide +kernel))) rfl (List.mem_cons_of_mem _ (gw_mem 69 (by decide +kernel))) (List.mem_cons_of_mem _ (gw_mem 822 (by decide +kernel))) (List.mem_cons_of_mem _ (gw_mem 288 (by decide +kernel))) (List.mem_cons_of_mem _ (gw_mem 289 (by decide +kernel))) pa6_put (by decide +kernel) ⟨Nat.le_trans (by decide) hR1.1, Nat.le_trans (by decide) hR1.2⟩ (kd7_putUrl_ok (43, .invokevirtual 61, 3) (List.mem_of_getElem? (i := 21) rfl))) (am_allc (am_ck_VS (n := 1) X hEs hE (kmJ_indexOf hE) (hg_good (gw_mem 830 (by decide +kernel))) rfl (List.mem_cons_of_mem _ (gw_mem 83 (by decide +kernel))) (List.mem_cons_of_mem _ (gw_mem 827 (by decide +kernel))) (List.mem_cons_of_mem _ (gw_mem 828 (by decide +kernel))) (List.mem_cons_of_mem _ (gw_mem 829 (by decide +kernel))) rfl paJ_indexOf (by decide +kernel) ⟨Nat.le_trans (by decide) hR1.1, Nat.le_trans (by decide) hR1.2⟩ (kd7_putUrl_ok (59, .invokevirtual 72, 3) (List.mem_of_getElem? (i := 29) rfl))) (am_allc (am_ck_V (n := 1) X hEs hE.1 (km6_put hE) (hg_good (gw_mem 290 (by decide +kernel))) rfl (List.mem_cons_of_mem _ (gw_mem 69 (by decide +kernel))) (List.mem_cons_of_mem _ (gw_mem 822 (by decide +kernel))) (List.mem_cons_of_mem _ (gw_mem 288 (by decide +kernel))) (List.mem_cons_of_mem _ (gw_mem 289 (by decide +kernel))) pa6_put (by decide +kernel) ⟨Nat.le_trans (by decide) hR1.1, Nat.le_trans (by decide) hR1.2⟩ (kd7_putUrl_ok (68, .invokevirtual 61, 3) (List.mem_of_getElem? (i := 33) rfl))) (am_allc (am_ck_V (n := 1) X hEs hE.1 (km6_putAll hE) (hg_good (gw_mem 814 (by decide +kernel))) rfl (List.mem_cons_of_mem _ (gw_mem 69 (by decide +kernel))) (List.mem_cons_of_mem _ (gw_mem 811 (by decide +kernel))) (List.mem_cons_of_mem _ (gw_mem 812 (by decide +kernel))) (List.mem_cons_of_mem _ (gw_mem 813 (by decide +kernel))) pa6_putAll (by decide +kernel) ⟨Nat.le_trans (by decide) hR1.1, Nat.le_trans (by decide) hR1.2⟩ (kd7_putUrl_ok (90, .invokevirtual 21, 3) (List.mem_of_getElem? (i := 44) rfl))) (am_allc (am_ck_V (n := 1) X hEs hE.1 (km6_put hE) (hg_good (gw_mem 290 (by decide +kernel))) rfl (List.mem_cons_of_mem _ (gw_mem 69 (by decide +kernel))) (List.mem_cons_of_mem _ (gw_mem 822 (by decide +kernel))) (List.mem_cons_of_mem _ (gw_mem 288 (by decide +kernel))) (List.mem_cons_of_mem _ (gw_mem 289 (by decide +kernel))) pa6_put (by decide +kernel) ⟨Nat.le_trans (by decide) hR1.1, Nat.le_trans (by decide) hR1.2⟩ (kd7_putUrl_ok (99, .invokevirtual 61, 3) (List.mem_of_getElem? (i := 48) rfl))) (am_allc (am_ck_V (n := 1) X hEs hE.1 (km6_putHex hE) (hg_good (gw_mem 907 (by decide +kernel))) rfl (List.mem_cons_of_mem _ (gw_mem 69 (by decide +kernel))) (List.mem_cons_of_mem _ (gw_mem 904 (by decide +kernel))) (List.mem_cons_of_mem _ (gw_mem 905 (by decide +kernel))) (List.mem_cons_of_mem _ (gw_mem 906 (by decide +kernel))) pa6_putHex (by decide +kernel) ⟨Nat.le_trans (by decide) hR1.1, Nat.le_trans (by decide) hR1.2⟩ (kd7_putUrl_ok (106, .invokevirtual 79, 3) (List.mem_of_getElem? (i := 52) rfl))) (am_all0))))))))))
    exact hz _ (am_as_mem hq)
noncomputable def ki7_staysInCode : List (Nat × Option (List Nat) × Nat × (List am_V → List am_C → Prop) × am_M) := [(1, some [], 1, pr4_isLetterOrDigit, fm4_isLetterOrDigit), (10, some [], 2, prJ_indexOf, fmJ_indexOf)]
def kc7_staysInCode : List (Nat × am_V) := [(95, .inr (.inr (32 + 1)))]
noncomputable def kb7_staysInCode : am_B := (kd7_staysInCode, am_as kf7, hn_ty, fun _ => none, am_as kc7_staysInCode, am_as ki7_staysInCode, fun _ => none, 5, 1, (some .boolean))
noncomputable def fn7_staysInCode (p0 : Int32) : Int32 := Classical.choose (⟨_, rfl⟩ : ∃ z : Int32, z = (if (fn4_isLetterOrDigit p0) = 0 then (if (fnJ_indexOf 32 p0) < 0 then (0 : Int32) else (1 : Int32)) else (1 : Int32)))
theorem fq7_staysInCode (p0 : Int32) : fn7_staysInCode p0 = (if (fn4_isLetterOrDigit p0) = 0 then (if (fnJ_indexOf 32 p0) < 0 then (0 : Int32) else (1 : Int32)) else (1 : Int32)) := Classical.choose_spec (⟨_, rfl⟩ : ∃ z : Int32, z = (if (fn4_isLetterOrDigit p0) = 0 then (if (fnJ_indexOf 32 p0) < 0 then (0 : Int32) else (1 : Int32)) else (1 : Int32)))
def wp7_staysInCode (p0 : Int32) : Prop := ((wp4_isLetterOrDigit p0) ∧ (((fn4_isLetterOrDigit p0) = 0 → (wpJ_indexOf 32 p0)) ∧ (¬ (fn4_isLetterOrDigit p0) = 0 → True)))
set_option maxRecDepth 100000 in
set_option maxHeartbeats 4000000 in
theorem re7_staysInCode (p0 : Int32) (hp : wp7_staysInCode p0) : am_lf (am_mk kb7_staysInCode 0 0 0) [] (0, am_L0 [.inl p0] 1, [], [], 0, 0) = some (some (.inl (fn7_staysInCode p0)), []) := by
  unfold wp7_staysInCode at hp
  refine am_lf_eq ?_
  generalize am_lf (am_mk kb7_staysInCode 0 0 0) [] = kt
  refine am_cy (pre := pr4_isLetterOrDigit) (f := fm4_isLetterOrDigit) (a' := [.inl p0]) (wc := []) (w' := []) (r := (some (.inl (fn4_isLetterOrDigit p0)), [], 0, 0)) ?_ ?_ ?_ ?_ ?_ ?_ ?_ ?_ ?_ ?_
  · exact am_sow0 _
  · rfl
  · rfl
  · exact am_sub0 _
  · exact ⟨p0, rfl, rfl, hp.1⟩
  · exact fe4_isLetterOrDigit p0
  · exact rfl
  · rfl
  · exact am_mix0 _
  refine am_if (c := (fn4_isLetterOrDigit p0) = 0) (fun h1 => ?_) (fun h1 => ?_)
  · have q1 := hp.2.1 h1
    refine am_cy (pre := prJ_indexOf) (f := fmJ_indexOf) (a' := [.inr (.inr (32 + 1)), .inl p0]) (wc := []) (w' := []) (r := (some (.inl (fnJ_indexOf 32 p0)), [], 0, 0)) ?_ ?_ ?_ ?_ ?_ ?_ ?_ ?_ ?_ ?_
    · exact am_sow0 _
    · rfl
    · rfl
    · exact am_sub0 _
    · exact ⟨32, p0, rfl, rfl, q1⟩
    · exact feJ_indexOf 32 p0
    · exact rfl
    · rfl
    · exact am_mix0 _
    refine am_if (c := (fnJ_indexOf 32 p0) < 0) (fun h2 => ?_) (fun h2 => ?_)
    · have e : fn7_staysInCode p0 = (0 : Int32) := by
        rw [fq7_staysInCode]
        rw [if_pos h1, if_pos h2]
      rw [e] <;> rfl
    · have e : fn7_staysInCode p0 = (1 : Int32) := by
        rw [fq7_staysInCode]
        rw [if_pos h1, if_neg h2]
      rw [e] <;> rfl
  · have e : fn7_staysInCode p0 = (1 : Int32) := by
      rw [fq7_staysInCode]
      rw [if_neg h1]
    rw [e] <;> rfl
abbrev pr7_staysInCode : List am_V → List am_C → Prop := fun a w => ∃ (p0 : Int32), a = [.inl p0] ∧ w = [] ∧ wp7_staysInCode p0
noncomputable def fm7_staysInCode : am_M := fun a w => (fun (z : Int32) => (some (.inl z), [], 0, 0)) (fn7_staysInCode (am_i (am_an a 0)))
theorem fe7_staysInCode (p0 : Int32) : fm7_staysInCode [.inl p0] [] = (some (.inl (fn7_staysInCode p0)), [], 0, 0) := rfl
set_option maxRecDepth 100000 in
set_option maxHeartbeats 4000000 in
theorem rn7_staysInCode : ∀ (a : List am_V) (w : List am_C), pr7_staysInCode a w → ∃ nq, am_ev (am_mk kb7_staysInCode (fm7_staysInCode a w).2.2.1 (fm7_staysInCode a w).2.2.2 w.length) [] nq (0, am_L0 a 1, [], w, 0, 0) = some ((fm7_staysInCode a w).1, (fm7_staysInCode a w).2.1) := by
  rintro a w ⟨p0, rfl, rfl, hp⟩
  rw [fe7_staysInCode p0]
  exact am_lf_ev (re7_staysInCode p0 hp)
theorem rl7_staysInCode : ∀ (a : List am_V) (w : List am_C), pr7_staysInCode a w → a.length ≤ 1 := by
  rintro a w ⟨p0, rfl, rfl, hp⟩
  exact Nat.le_of_ble_eq_true rfl
set_option maxRecDepth 100000 in
set_option maxHeartbeats 4000000 in
theorem km7_staysInCode {l : Launch} {E : (Nat → Prop) → State → Prop} {D : va_G} {ou : Nat → Nat} {ca : Nat → ClassId} (hE : hg_E E ou) : hg_Met l E D ou ca hy7_staysInCode prog_9_method_6_code 1 (some .boolean) 4 pr7_staysInCode fm7_staysInCode := by
  refine am_met (B := kb7_staysInCode) (cuts := []) (nt := 5) (by decide +kernel) rfl rfl (hg_tys_ok ca) ?_ (by decide) rl7_staysInCode ?_ rn7_staysInCode
  · exact fun t ht => List.mem_cons_of_mem _ (hg_arr t ht)
  · intro a w hp ad p e R s m args below meth c hR X hEs hnm
    have hR1 : 4 ≤ R.frames ∧ 160 ≤ R.locals := by rw [hR]; exact ⟨Nat.le_refl _, Nat.le_refl _⟩
    have hN := hE.2.1 _ _ hEs
    have hc : ∀ q ∈ kc7_staysInCode, am_LK s hn_R7 args ou q.1 q.2 := am_allc (hg_lk hN.2 32 rfl) (am_all0)
    refine ⟨kd7_staysInCode_ok, fun index ci fi mode hq => kf7_ok X.2.2.2.2.1 hN.1 (index, ci, fi, mode) (am_as_mem hq), fun index ci fs hq => (am_no hq).elim, fun x v hq => hc (x, v) (am_as_mem hq), ?_, fun o t n f hq => (am_no hq).elim, rfl, rfl, by rw [hR]; exact Nat.le_refl _, by rw [hR]; exact Nat.le_refl _⟩
    intro pc sel n0 pre0 f0 hq
    have hz : ∀ q ∈ ki7_staysInCode, am_CK p l e R s m args below meth c D hn_cl (va_A (am_w ad ou ca w) s.heap.size) ou ca 1 q.1 q.2.2.1 q.2.2.2.1 q.2.2.2.2 := by
      refine am_allc (am_ck_S (n := 1) X hEs hE.1 (km4_isLetterOrDigit hE) (hg_good (gw_mem 358 (by decide +kernel))) rfl (List.mem_cons_of_mem _ (gw_mem 77 (by decide +kernel))) (List.mem_cons_of_mem _ (gw_mem 901 (by decide +kernel))) (List.mem_cons_of_mem _ (gw_mem 357 (by decide +kernel))) (by decide +kernel) ⟨Nat.le_trans (by decide) hR1.1, Nat.le_trans (by decide) hR1.2⟩ (kd7_staysInCode_ok (1, .invokestatic 65, 3) (List.mem_of_getElem? (i := 1) rfl))) (am_allc (am_ck_VS (n := 1) X hEs hE (kmJ_indexOf hE) (hg_good (gw_mem 830 (by decide +kernel))) rfl (List.mem_cons_of_mem _ (gw_mem 83 (by decide +kernel))) (List.mem_cons_of_mem _ (gw_mem 827 (by decide +kernel))) (List.mem_cons_of_mem _ (gw_mem 828 (by decide +kernel))) (List.mem_cons_of_mem _ (gw_mem 829 (by decide +kernel))) rfl paJ_indexOf (by decide +kernel) ⟨Nat.le_trans (by decide) hR1.1, Nat.le_trans (by decide) hR1.2⟩ (kd7_staysInCode_ok (10, .invokevirtual 72, 3) (List.mem_of_getElem? (i := 5) rfl))) (am_all0))
    exact hz _ (am_as_mem hq)
noncomputable def ki7_putScript : List (Nat × Option (List Nat) × Nat × (List am_V → List am_C → Prop) × am_M) := [(26, some [0, 1], 2, pr6_putAll, fm6_putAll), (36, some [2, 3, 4, 5, 6], 2, pr2_length, fm2_length), (46, some [2, 3, 4, 5, 6], 3, pr2_at, fm2_at), (53, some [], 1, pr7_staysInCode, fm7_staysInCode), (62, some [0, 1], 2, pr6_put, fm6_put), (72, some [0, 1], 2, pr6_putAll, fm6_putAll), (78, some [0, 1], 2, pr6_putHex, fm6_putHex), (90, some [0, 1], 2, pr6_putAll, fm6_putAll)]
def kc7_putScript : List (Nat × am_V) := [(57, .inr (.inr (20 + 1))), (97, .inr (.inr (30 + 1))), (99, .inr (.inr (31 + 1))), (104, .inr (.inr (33 + 1)))]
noncomputable def kb7_putScript : am_B := (kd7_putScript, am_as kf7, hn_ty, fun _ => none, am_as kc7_putScript, am_as ki7_putScript, fun _ => none, 5, 8, none)
noncomputable def fn7_putScript_c32 : Nat → qt6 → qt2 → Int32 → Nat → Int32 → qt6
  | 0, t, _, _, _, _ => t
  | fu + 1, t, m, v2, v5, v6 => (if (fn2_length m v2) ≤ v6 then (fn6_putAll 1000 t v5) else (if (fn7_staysInCode (fn2_at m v2 v6)) = 0 then (fn7_putScript_c32 fu (fn6_putHex 1000 (fn6_putAll 1000 t 33) (fn2_at m v2 v6)) m v2 v5 (v6 + (1 : Int32))) else (fn7_putScript_c32 fu ((fn6_put 1000 t (fn2_at m v2 v6)).2) m v2 v5 (v6 + (1 : Int32)))))
def wp7_putScript_c32 : Nat → qt6 → qt2 → Int32 → Nat → Int32 → Prop
  | 0, _, _, _, _, _ => False
  | fu + 1, t, m, v2, v5, v6 => ((wp2_length m v2) ∧ (((fn2_length m v2) ≤ v6 → (wp6_putAll 1000 t v5)) ∧ (¬ (fn2_length m v2) ≤ v6 → ((wp2_at m v2 v6) ∧ ((wp7_staysInCode (fn2_at m v2 v6)) ∧ (((fn7_staysInCode (fn2_at m v2 v6)) = 0 → ((wp6_putAll 1000 t 33) ∧ ((wp6_putHex 1000 (fn6_putAll 1000 t 33) (fn2_at m v2 v6)) ∧ (wp7_putScript_c32 fu (fn6_putHex 1000 (fn6_putAll 1000 t 33) (fn2_at m v2 v6)) m v2 v5 (v6 + (1 : Int32)))))) ∧ (¬ (fn7_staysInCode (fn2_at m v2 v6)) = 0 → ((wp6_put 1000 t (fn2_at m v2 v6)) ∧ (wp7_putScript_c32 fu ((fn6_put 1000 t (fn2_at m v2 v6)).2) m v2 v5 (v6 + (1 : Int32)))))))))))
set_option maxRecDepth 100000 in
set_option maxHeartbeats 4000000 in
theorem rc7_putScript_32 : ∀ (fu : Nat) (t : qt6) (m : qt2) (v2 : Int32) (v5 : Nat) (v6 : Int32) (j3 : Option am_V) (j4 : Option am_V) (j7 : Option am_V) (g3 : am_loO 7 j3 = true) (g4 : am_loO 7 j4 = true) (g7 : am_loO 7 j7 = true) , wp7_putScript_c32 fu t m v2 v5 v6 → am_lf (am_mk kb7_putScript 0 0 7) [29, 32] (32, [some (.inr (.inl 0)), some (.inr (.inl 2)), some (.inl v2), j3, j4, some (.inr (.inr (v5 + 1))), some (.inl v6), j7], [], (kw_TI t m), 0, 0) = some (none, (kw_TI (fn7_putScript_c32 fu t m v2 v5 v6) m)) := by
  intro fu
  induction fu with
  | zero =>
    intro t m v2 v5 v6 j3 j4 j7 g3 g4 g7 hp
    exact hp.elim
  | succ fu ih =>
    intro t m v2 v5 v6 j3 j4 j7 g3 g4 g7 hp
    unfold wp7_putScript_c32 at hp
    refine am_lf_eq ?_
    generalize am_lf (am_mk kb7_putScript 0 0 7) [29, 32] = kt at ih ⊢
    refine am_cy (pre := pr2_length) (f := fm2_length) (a' := [.inr (.inl 0), .inl v2]) (wc := (kw_I m)) (w' := (kw_TI t m)) (r := (some (.inl (fn2_length m v2)), (kw_I m), 0, 0)) ?_ ?_ ?_ ?_ ?_ ?_ ?_ ?_ ?_ ?_
    · exact ks_TI_I_1_o t m
    · rfl
    · rfl
    · exact ks_TI_I_1_s t m
    · exact ⟨m, v2, rfl, rfl, hp.1⟩
    · exact fe2_length m v2
    · exact kwl_I m
    · rfl
    · exact ks_TI_I_1_m t m m
    refine am_if (c := (fn2_length m v2) ≤ v6) (fun h2 => ?_) (fun h2 => ?_)
    · have q2 := hp.2.1 h2
      refine am_cy (pre := pr6_putAll) (f := fm6_putAll) (a' := [.inr (.inl 0), .inr (.inr (v5 + 1))]) (wc := (kw_T 1000 t)) (w' := (kw_TI (fn6_putAll 1000 t v5) m)) (r := (none, (kw_T 1000 (fn6_putAll 1000 t v5)), 0, 0)) ?_ ?_ ?_ ?_ ?_ ?_ ?_ ?_ ?_ ?_
      · exact ks_TI_T_0_o t m
      · rfl
      · rfl
      · exact ks_TI_T_0_s t m
      · exact ⟨1000, t, v5, rfl, rfl, q2⟩
      · exact fe6_putAll 1000 t v5
      · exact kwl_T 1000 (fn6_putAll 1000 t v5)
      · rfl
      · exact ks_TI_T_0_m t m (fn6_putAll 1000 t v5)
      have e : fn7_putScript_c32 (fu + 1) t m v2 v5 v6 = (fn6_putAll 1000 t v5) := by
        rw [fn7_putScript_c32]
        rw [if_pos h2]
      rw [e] <;> rfl
    · have q2 := hp.2.2 h2
      refine am_cy (pre := pr2_at) (f := fm2_at) (a' := [.inr (.inl 0), .inl v2, .inl v6]) (wc := (kw_I m)) (w' := (kw_TI t m)) (r := (some (.inl (fn2_at m v2 v6)), (kw_I m), 0, 0)) ?_ ?_ ?_ ?_ ?_ ?_ ?_ ?_ ?_ ?_
      · exact ks_TI_I_1_o t m
      · rfl
      · rfl
      · exact ks_TI_I_1_s t m
      · exact ⟨m, v2, v6, rfl, rfl, q2.1⟩
      · exact fe2_at m v2 v6
      · exact kwl_I m
      · rfl
      · exact ks_TI_I_1_m t m m
      refine am_cy (pre := pr7_staysInCode) (f := fm7_staysInCode) (a' := [.inl (fn2_at m v2 v6)]) (wc := []) (w' := (kw_TI t m)) (r := (some (.inl (fn7_staysInCode (fn2_at m v2 v6))), [], 0, 0)) ?_ ?_ ?_ ?_ ?_ ?_ ?_ ?_ ?_ ?_
      · exact am_sow0 _
      · rfl
      · rfl
      · exact am_sub0 _
      · exact ⟨(fn2_at m v2 v6), rfl, rfl, q2.2.1⟩
      · exact fe7_staysInCode (fn2_at m v2 v6)
      · exact rfl
      · rfl
      · exact am_mix0 _
      refine am_if (c := (fn7_staysInCode (fn2_at m v2 v6)) = 0) (fun h3 => ?_) (fun h3 => ?_)
      · have q3 := q2.2.2.1 h3
        refine am_cy (pre := pr6_putAll) (f := fm6_putAll) (a' := [.inr (.inl 0), .inr (.inr (33 + 1))]) (wc := (kw_T 1000 t)) (w' := (kw_TI (fn6_putAll 1000 t 33) m)) (r := (none, (kw_T 1000 (fn6_putAll 1000 t 33)), 0, 0)) ?_ ?_ ?_ ?_ ?_ ?_ ?_ ?_ ?_ ?_
        · exact ks_TI_T_0_o t m
        · rfl
        · rfl
        · exact ks_TI_T_0_s t m
        · exact ⟨1000, t, 33, rfl, rfl, q3.1⟩
        · exact fe6_putAll 1000 t 33
        · exact kwl_T 1000 (fn6_putAll 1000 t 33)
        · rfl
        · exact ks_TI_T_0_m t m (fn6_putAll 1000 t 33)
        refine am_cy (pre := pr6_putHex) (f := fm6_putHex) (a' := [.inr (.inl 0), .inl (fn2_at m v2 v6)]) (wc := (kw_T 1000 (fn6_putAll 1000 t 33))) (w' := (kw_TI (fn6_putHex 1000 (fn6_putAll 1000 t 33) (fn2_at m v2 v6)) m)) (r := (none, (kw_T 1000 (fn6_putHex 1000 (fn6_putAll 1000 t 33) (fn2_at m v2 v6))), 0, 0)) ?_ ?_ ?_ ?_ ?_ ?_ ?_ ?_ ?_ ?_
        · exact ks_TI_T_0_o (fn6_putAll 1000 t 33) m
        · rfl
        · rfl
        · exact ks_TI_T_0_s (fn6_putAll 1000 t 33) m
        · exact ⟨1000, (fn6_putAll 1000 t 33), (fn2_at m v2 v6), rfl, rfl, q3.2.1⟩
        · exact fe6_putHex 1000 (fn6_putAll 1000 t 33) (fn2_at m v2 v6)
        · exact kwl_T 1000 (fn6_putHex 1000 (fn6_putAll 1000 t 33) (fn2_at m v2 v6))
        · rfl
        · exact ks_TI_T_0_m (fn6_putAll 1000 t 33) m (fn6_putHex 1000 (fn6_putAll 1000 t 33) (fn2_at m v2 v6))
        have e : fn7_putScript_c32 (fu + 1) t m v2 v5 v6 = fn7_putScript_c32 fu (fn6_putHex 1000 (fn6_putAll 1000 t 33) (fn2_at m v2 v6)) m v2 v5 (v6 + (1 : Int32)) := by
          rw [fn7_putScript_c32]
          rw [if_neg h2, if_pos h3]
        rw [e]
        exact ih (fn6_putHex 1000 (fn6_putAll 1000 t 33) (fn2_at m v2 v6)) m v2 v5 (v6 + (1 : Int32)) _ _ _ g3 g4 rfl q3.2.2
      · have q3 := q2.2.2.2 h3
        refine am_cy (pre := pr6_put) (f := fm6_put) (a' := [.inr (.inl 0), .inl (fn2_at m v2 v6)]) (wc := (kw_T 1000 t)) (w' := (kw_TI ((fn6_put 1000 t (fn2_at m v2 v6)).2) m)) (r := (some (.inl ((fn6_put 1000 t (fn2_at m v2 v6)).1)), (kw_T 1000 ((fn6_put 1000 t (fn2_at m v2 v6)).2)), 0, 0)) ?_ ?_ ?_ ?_ ?_ ?_ ?_ ?_ ?_ ?_
        · exact ks_TI_T_0_o t m
        · rfl
        · rfl
        · exact ks_TI_T_0_s t m
        · exact ⟨1000, t, (fn2_at m v2 v6), rfl, rfl, q3.1⟩
        · exact fe6_put 1000 t (fn2_at m v2 v6)
        · exact kwl_T 1000 ((fn6_put 1000 t (fn2_at m v2 v6)).2)
        · rfl
        · exact ks_TI_T_0_m t m ((fn6_put 1000 t (fn2_at m v2 v6)).2)
        have e : fn7_putScript_c32 (fu + 1) t m v2 v5 v6 = fn7_putScript_c32 fu ((fn6_put 1000 t (fn2_at m v2 v6)).2) m v2 v5 (v6 + (1 : Int32)) := by
          rw [fn7_putScript_c32]
          rw [if_neg h2, if_neg h3]
        rw [e]
        exact ih ((fn6_put 1000 t (fn2_at m v2 v6)).2) m v2 v5 (v6 + (1 : Int32)) _ _ _ g3 g4 rfl q3.2
noncomputable def fn7_putScript_c29 (t : qt6) (m : qt2) (v2 : Int32) (v5 : Nat) : qt6 := (fn7_putScript_c32 hg_fu t m v2 v5 (0 : Int32))
def wp7_putScript_c29 (t : qt6) (m : qt2) (v2 : Int32) (v5 : Nat) : Prop := (wp7_putScript_c32 hg_fu t m v2 v5 (0 : Int32))
set_option maxRecDepth 100000 in
set_option maxHeartbeats 4000000 in
theorem rc7_putScript_29 (t : qt6) (m : qt2) (v2 : Int32) (v5 : Nat) (j3 : Option am_V) (j4 : Option am_V) (j6 : Option am_V) (j7 : Option am_V) (g3 : am_loO 7 j3 = true) (g4 : am_loO 7 j4 = true) (g6 : am_loO 7 j6 = true) (g7 : am_loO 7 j7 = true) (hp : wp7_putScript_c29 t m v2 v5) : am_lf (am_mk kb7_putScript 0 0 7) [29, 32] (29, [some (.inr (.inl 0)), some (.inr (.inl 2)), some (.inl v2), j3, j4, some (.inr (.inr (v5 + 1))), j6, j7], [], (kw_TI t m), 0, 0) = some (none, (kw_TI (fn7_putScript_c29 t m v2 v5) m)) := by
  unfold wp7_putScript_c29 at hp
  have i32 := @rc7_putScript_32
  refine am_lf_eq ?_
  generalize am_lf (am_mk kb7_putScript 0 0 7) [29, 32] = kt at i32 ⊢
  have e : fn7_putScript_c29 t m v2 v5 = fn7_putScript_c32 hg_fu t m v2 v5 (0 : Int32) := by
    rw [fn7_putScript_c29]
  rw [e]
  exact i32 hg_fu t m v2 v5 (0 : Int32) _ _ _ g3 g4 g7 hp
noncomputable def fn7_putScript (t : qt6) (m : qt2) (p2 : Int32) (p3 : Int32) (p4 : Int32) : qt6 := Classical.choose (⟨_, rfl⟩ : ∃ z : qt6, z = (if p3 = 0 then (if p4 = 0 then (fn7_putScript_c29 (fn6_putAll 1000 t 31) m p2 31) else (fn7_putScript_c29 (fn6_putAll 1000 t 20) m p2 20)) else (fn7_putScript_c29 (fn6_putAll 1000 t 30) m p2 30)))
theorem fq7_putScript (t : qt6) (m : qt2) (p2 : Int32) (p3 : Int32) (p4 : Int32) : fn7_putScript t m p2 p3 p4 = (if p3 = 0 then (if p4 = 0 then (fn7_putScript_c29 (fn6_putAll 1000 t 31) m p2 31) else (fn7_putScript_c29 (fn6_putAll 1000 t 20) m p2 20)) else (fn7_putScript_c29 (fn6_putAll 1000 t 30) m p2 30)) := Classical.choose_spec (⟨_, rfl⟩ : ∃ z : qt6, z = (if p3 = 0 then (if p4 = 0 then (fn7_putScript_c29 (fn6_putAll 1000 t 31) m p2 31) else (fn7_putScript_c29 (fn6_putAll 1000 t 20) m p2 20)) else (fn7_putScript_c29 (fn6_putAll 1000 t 30) m p2 30)))
def wp7_putScript (t : qt6) (m : qt2) (p2 : Int32) (p3 : Int32) (p4 : Int32) : Prop := ((p3 = 0 → ((p4 = 0 → ((wp6_putAll 1000 t 31) ∧ (wp7_putScript_c29 (fn6_putAll 1000 t 31) m p2 31))) ∧ (¬ p4 = 0 → ((wp6_putAll 1000 t 20) ∧ (wp7_putScript_c29 (fn6_putAll 1000 t 20) m p2 20))))) ∧ (¬ p3 = 0 → ((wp6_putAll 1000 t 30) ∧ (wp7_putScript_c29 (fn6_putAll 1000 t 30) m p2 30))))
set_option maxRecDepth 100000 in
set_option maxHeartbeats 4000000 in
theorem re7_putScript (t : qt6) (m : qt2) (p2 : Int32) (p3 : Int32) (p4 : Int32) (hp : wp7_putScript t m p2 p3 p4) : am_lf (am_mk kb7_putScript 0 0 7) [29, 32] (0, am_L0 [.inr (.inl 0), .inr (.inl 2), .inl p2, .inl p3, .inl p4] 8, [], (kw_TI t m), 0, 0) = some (none, (kw_TI (fn7_putScript t m p2 p3 p4) m)) := by
  unfold wp7_putScript at hp
  have i29 := @rc7_putScript_29
  refine am_lf_eq ?_
  generalize am_lf (am_mk kb7_putScript 0 0 7) [29, 32] = kt at i29 ⊢
  refine am_if (c := p3 = 0) (fun h1 => ?_) (fun h1 => ?_)
  · have q1 := hp.1 h1
    refine am_if (c := p4 = 0) (fun h2 => ?_) (fun h2 => ?_)
    · have q2 := q1.1 h2
      refine am_cy (pre := pr6_putAll) (f := fm6_putAll) (a' := [.inr (.inl 0), .inr (.inr (31 + 1))]) (wc := (kw_T 1000 t)) (w' := (kw_TI (fn6_putAll 1000 t 31) m)) (r := (none, (kw_T 1000 (fn6_putAll 1000 t 31)), 0, 0)) ?_ ?_ ?_ ?_ ?_ ?_ ?_ ?_ ?_ ?_
      · exact ks_TI_T_0_o t m
      · rfl
      · rfl
      · exact ks_TI_T_0_s t m
      · exact ⟨1000, t, 31, rfl, rfl, q2.1⟩
      · exact fe6_putAll 1000 t 31
      · exact kwl_T 1000 (fn6_putAll 1000 t 31)
      · rfl
      · exact ks_TI_T_0_m t m (fn6_putAll 1000 t 31)
      have e : fn7_putScript t m p2 p3 p4 = fn7_putScript_c29 (fn6_putAll 1000 t 31) m p2 31 := by
        rw [fq7_putScript]
        rw [if_pos h1, if_pos h2]
      rw [e]
      exact i29 (fn6_putAll 1000 t 31) m p2 31 _ _ _ _ rfl rfl rfl rfl q2.2
    · have q2 := q1.2 h2
      refine am_cy (pre := pr6_putAll) (f := fm6_putAll) (a' := [.inr (.inl 0), .inr (.inr (20 + 1))]) (wc := (kw_T 1000 t)) (w' := (kw_TI (fn6_putAll 1000 t 20) m)) (r := (none, (kw_T 1000 (fn6_putAll 1000 t 20)), 0, 0)) ?_ ?_ ?_ ?_ ?_ ?_ ?_ ?_ ?_ ?_
      · exact ks_TI_T_0_o t m
      · rfl
      · rfl
      · exact ks_TI_T_0_s t m
      · exact ⟨1000, t, 20, rfl, rfl, q2.1⟩
      · exact fe6_putAll 1000 t 20
      · exact kwl_T 1000 (fn6_putAll 1000 t 20)
      · rfl
      · exact ks_TI_T_0_m t m (fn6_putAll 1000 t 20)
      have e : fn7_putScript t m p2 p3 p4 = fn7_putScript_c29 (fn6_putAll 1000 t 20) m p2 20 := by
        rw [fq7_putScript]
        rw [if_pos h1, if_neg h2]
      rw [e]
      exact i29 (fn6_putAll 1000 t 20) m p2 20 _ _ _ _ rfl rfl rfl rfl q2.2
  · have q1 := hp.2 h1
    refine am_cy (pre := pr6_putAll) (f := fm6_putAll) (a' := [.inr (.inl 0), .inr (.inr (30 + 1))]) (wc := (kw_T 1000 t)) (w' := (kw_TI (fn6_putAll 1000 t 30) m)) (r := (none, (kw_T 1000 (fn6_putAll 1000 t 30)), 0, 0)) ?_ ?_ ?_ ?_ ?_ ?_ ?_ ?_ ?_ ?_
    · exact ks_TI_T_0_o t m
    · rfl
    · rfl
    · exact ks_TI_T_0_s t m
    · exact ⟨1000, t, 30, rfl, rfl, q1.1⟩
    · exact fe6_putAll 1000 t 30
    · exact kwl_T 1000 (fn6_putAll 1000 t 30)
    · rfl
    · exact ks_TI_T_0_m t m (fn6_putAll 1000 t 30)
    have e : fn7_putScript t m p2 p3 p4 = fn7_putScript_c29 (fn6_putAll 1000 t 30) m p2 30 := by
      rw [fq7_putScript]
      rw [if_neg h1]
    rw [e]
    exact i29 (fn6_putAll 1000 t 30) m p2 30 _ _ _ _ rfl rfl rfl rfl q1.2
abbrev pr7_putScript : List am_V → List am_C → Prop := fun a w => ∃ (t : qt6) (m : qt2) (p2 : Int32) (p3 : Int32) (p4 : Int32), a = [.inr (.inl 0), .inr (.inl 2), .inl p2, .inl p3, .inl p4] ∧ w = (kw_TI t m) ∧ wp7_putScript t m p2 p3 p4
noncomputable def fm7_putScript : am_M := fun a w => (fun (z : qt6) => (none, (kw_TI z (qs2 w 2)), 0, 0)) (fn7_putScript (qs6 w 0) (qs2 w 2) (am_i (am_an a 2)) (am_i (am_an a 3)) (am_i (am_an a 4)))
theorem fe7_putScript (t : qt6) (m : qt2) (p2 : Int32) (p3 : Int32) (p4 : Int32) : fm7_putScript [.inr (.inl 0), .inr (.inl 2), .inl p2, .inl p3, .inl p4] (kw_TI t m) = (none, (kw_TI (fn7_putScript t m p2 p3 p4) m), 0, 0) := rfl
set_option maxRecDepth 100000 in
set_option maxHeartbeats 4000000 in
theorem rn7_putScript : ∀ (a : List am_V) (w : List am_C), pr7_putScript a w → ∃ nq, am_ev (am_mk kb7_putScript (fm7_putScript a w).2.2.1 (fm7_putScript a w).2.2.2 w.length) [29, 32] nq (0, am_L0 a 8, [], w, 0, 0) = some ((fm7_putScript a w).1, (fm7_putScript a w).2.1) := by
  rintro a w ⟨t, m, p2, p3, p4, rfl, rfl, hp⟩
  rw [fe7_putScript t m p2 p3 p4]
  exact am_lf_ev (re7_putScript t m p2 p3 p4 hp)
theorem rl7_putScript : ∀ (a : List am_V) (w : List am_C), pr7_putScript a w → a.length ≤ 8 := by
  rintro a w ⟨t, m, p2, p3, p4, rfl, rfl, hp⟩
  exact Nat.le_of_ble_eq_true rfl
set_option maxRecDepth 100000 in
set_option maxHeartbeats 4000000 in
theorem km7_putScript {l : Launch} {E : (Nat → Prop) → State → Prop} {D : va_G} {ou : Nat → Nat} {ca : Nat → ClassId} (hE : hg_E E ou) : hg_Met l E D ou ca hy7_putScript prog_9_method_7_code 8 none 6 pr7_putScript fm7_putScript := by
  refine am_met (B := kb7_putScript) (cuts := [29, 32]) (nt := 5) (by decide +kernel) rfl rfl (hg_tys_ok ca) ?_ (by decide) rl7_putScript ?_ rn7_putScript
  · exact fun t ht => List.mem_cons_of_mem _ (hg_arr t ht)
  · intro a w hp ad p e R s m args below meth c hR X hEs hnm
    have hR1 : 6 ≤ R.frames ∧ 240 ≤ R.locals := by rw [hR]; exact ⟨Nat.le_refl _, Nat.le_refl _⟩
    have hN := hE.2.1 _ _ hEs
    have hc : ∀ q ∈ kc7_putScript, am_LK s hn_R7 args ou q.1 q.2 := am_allc (hg_lk hN.2 20 rfl) (am_allc (hg_lk hN.2 30 rfl) (am_allc (hg_lk hN.2 31 rfl) (am_allc (hg_lk hN.2 33 rfl) (am_all0))))
    refine ⟨kd7_putScript_ok, fun index ci fi mode hq => kf7_ok X.2.2.2.2.1 hN.1 (index, ci, fi, mode) (am_as_mem hq), fun index ci fs hq => (am_no hq).elim, fun x v hq => hc (x, v) (am_as_mem hq), ?_, fun o t n f hq => (am_no hq).elim, rfl, rfl, by rw [hR]; exact Nat.le_refl _, by rw [hR]; exact Nat.le_refl _⟩
    intro pc sel n0 pre0 f0 hq
    have hz : ∀ q ∈ ki7_putScript, am_CK p l e R s m args below meth c D hn_cl (va_A (am_w ad ou ca w) s.heap.size) ou ca 8 q.1 q.2.2.1 q.2.2.2.1 q.2.2.2.2 := by
      refine am_allc (am_ck_V (n := 1) X hEs hE.1 (km6_putAll hE) (hg_good (gw_mem 814 (by decide +kernel))) rfl (List.mem_cons_of_mem _ (gw_mem 69 (by decide +kernel))) (List.mem_cons_of_mem _ (gw_mem 811 (by decide +kernel))) (List.mem_cons_of_mem _ (gw_mem 812 (by decide +kernel))) (List.mem_cons_of_mem _ (gw_mem 813 (by decide +kernel))) pa6_putAll (by decide +kernel) ⟨Nat.le_trans (by decide) hR1.1, Nat.le_trans (by decide) hR1.2⟩ (kd7_putScript_ok (26, .invokevirtual 21, 3) (List.mem_of_getElem? (i := 12) rfl))) (am_allc (am_ck_V (n := 1) X hEs hE.1 (km2_length hE) (hg_good (gw_mem 805 (by decide +kernel))) rfl (List.mem_cons_of_mem _ (gw_mem 71 (by decide +kernel))) (List.mem_cons_of_mem _ (gw_mem 802 (by decide +kernel))) (List.mem_cons_of_mem _ (gw_mem 803 (by decide +kernel))) (List.mem_cons_of_mem _ (gw_mem 804 (by decide +kernel))) pa2_length (by decide +kernel) ⟨Nat.le_trans (by decide) hR1.1, Nat.le_trans (by decide) hR1.2⟩ (kd7_putScript_ok (36, .invokevirtual 41, 3) (List.mem_of_getElem? (i := 18) rfl))) (am_allc (am_ck_V (n := 2) X hEs hE.1 (km2_at hE) (hg_good (gw_mem 809 (by decide +kernel))) rfl (List.mem_cons_of_mem _ (gw_mem 71 (by decide +kernel))) (List.mem_cons_of_mem _ (gw_mem 806 (by decide +kernel))) (List.mem_cons_of_mem _ (gw_mem 807 (by decide +kernel))) (List.mem_cons_of_mem _ (gw_mem 808 (by decide +kernel))) pa2_at (by decide +kernel) ⟨Nat.le_trans (by decide) hR1.1, Nat.le_trans (by decide) hR1.2⟩ (kd7_putScript_ok (46, .invokevirtual 47, 3) (List.mem_of_getElem? (i := 23) rfl))) (am_allc (am_ck_S (n := 1) X hEs hE.1 (km7_staysInCode hE) (hg_good (gw_mem 923 (by decide +kernel))) rfl (List.mem_cons_of_mem _ (gw_mem 90 (by decide +kernel))) (List.mem_cons_of_mem _ (gw_mem 921 (by decide +kernel))) (List.mem_cons_of_mem _ (gw_mem 922 (by decide +kernel))) (by decide +kernel) ⟨Nat.le_trans (by decide) hR1.1, Nat.le_trans (by decide) hR1.2⟩ (kd7_putScript_ok (53, .invokestatic 101, 3) (List.mem_of_getElem? (i := 26) rfl))) (am_allc (am_ck_V (n := 1) X hEs hE.1 (km6_put hE) (hg_good (gw_mem 290 (by decide +kernel))) rfl (List.mem_cons_of_mem _ (gw_mem 69 (by decide +kernel))) (List.mem_cons_of_mem _ (gw_mem 822 (by decide +kernel))) (List.mem_cons_of_mem _ (gw_mem 288 (by decide +kernel))) (List.mem_cons_of_mem _ (gw_mem 289 (by decide +kernel))) pa6_put (by decide +kernel) ⟨Nat.le_trans (by decide) hR1.1, Nat.le_trans (by decide) hR1.2⟩ (kd7_putScript_ok (62, .invokevirtual 61, 3) (List.mem_of_getElem? (i := 30) rfl))) (am_allc (am_ck_V (n := 1) X hEs hE.1 (km6_putAll hE) (hg_good (gw_mem 814 (by decide +kernel))) rfl (List.mem_cons_of_mem _ (gw_mem 69 (by decide +kernel))) (List.mem_cons_of_mem _ (gw_mem 811 (by decide +kernel))) (List.mem_cons_of_mem _ (gw_mem 812 (by decide +kernel))) (List.mem_cons_of_mem _ (gw_mem 813 (by decide +kernel))) pa6_putAll (by decide +kernel) ⟨Nat.le_trans (by decide) hR1.1, Nat.le_trans (by decide) hR1.2⟩ (kd7_putScript_ok (72, .invokevirtual 21, 3) (List.mem_of_getElem? (i := 35) rfl))) (am_allc (am_ck_V (n := 1) X hEs hE.1 (km6_putHex hE) (hg_good (gw_mem 907 (by decide +kernel))) rfl (List.mem_cons_of_mem _ (gw_mem 69 (by decide +kernel))) (List.mem_cons_of_mem _ (gw_mem 904 (by decide +kernel))) (List.mem_cons_of_mem _ (gw_mem 905 (by decide +kernel))) (List.mem_cons_of_mem _ (gw_mem 906 (by decide +kernel))) pa6_putHex (by decide +kernel) ⟨Nat.le_trans (by decide) hR1.1, Nat.le_trans (by decide) hR1.2⟩ (kd7_putScript_ok (78, .invokevirtual 79, 3) (List.mem_of_getElem? (i := 38) rfl))) (am_allc (am_ck_V (n := 1) X hEs hE.1 (km6_putAll hE) (hg_good (gw_mem 814 (by decide +kernel))) rfl (List.mem_cons_of_mem _ (gw_mem 69 (by decide +kernel))) (List.mem_cons_of_mem _ (gw_mem 811 (by decide +kernel))) (List.mem_cons_of_mem _ (gw_mem 812 (by decide +kernel))) (List.mem_cons_of_mem _ (gw_mem 813 (by decide +kernel))) pa6_putAll (by decide +kernel) ⟨Nat.le_trans (by decide) hR1.1, Nat.le_trans (by decide) hR1.2⟩ (kd7_putScript_ok (90, .invokevirtual 21, 3) (List.mem_of_getElem? (i := 43) rfl))) (am_all0))))))))
    exact hz _ (am_as_mem hq)
