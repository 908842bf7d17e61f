noncomputable def ki10_close : List (Nat × Option (List Nat) × Nat × (List am_V → List am_C → Prop) × am_M) := [(23, none, 2, pr10_variable, fm10_variable)]
noncomputable def kb10_close : am_B := (kd10_close, am_as kf10, hn_ty, fun _ => none, fun _ => none, am_as ki10_close, fun _ => none, 5, 5, (some .int))
noncomputable def fn10_close (s : hs) (p0 : Int32) : Int32 × hs := Classical.choose (⟨_, rfl⟩ : ∃ z : Int32 × hs, z = (if ((hm_sort s) (((hm_opener s) (p0).toNatClampNeg)).toNatClampNeg) = (2 : Int32) then ((p0 + (1 : Int32)), s) else (if 0 ≤ ((hm_saved s) (((hm_deep s) - (1 : Int32))).toNatClampNeg) then ((p0 + (1 : Int32)), (ha_alone (hu_deep s ((hm_deep s) - (1 : Int32))) (((fn10_variable s ((hm_opener s) (p0).toNatClampNeg))).toNatClampNeg) ((hm_saved (hu_deep s ((hm_deep s) - (1 : Int32)))) ((hm_deep (hu_deep s ((hm_deep s) - (1 : Int32))))).toNatClampNeg))) else (if ((((4 : Int32) * (fn10_variable s ((hm_opener s) (p0).toNatClampNeg))) + ((hm_counts s) ((fn10_variable s ((hm_opener s) (p0).toNatClampNeg))).toNatClampNeg)) - (1 : Int32)) ≤ ((hm_alone s) ((fn10_variable s ((hm_opener s) (p0).toNatClampNeg))).toNatClampNeg) then ((p0 + (1 : Int32)), (ha_alone (hu_deep s ((hm_deep s) - (1 : Int32))) (((fn10_variable s ((hm_opener s) (p0).toNatClampNeg))).toNatClampNeg) ((hm_saved (hu_deep s ((hm_deep s) - (1 : Int32)))) ((hm_deep (hu_deep s ((hm_deep s) - (1 : Int32))))).toNatClampNeg))) else ((((hm_opener s) (p0).toNatClampNeg) + (1 : Int32)), (ha_alone s (((fn10_variable s ((hm_opener s) (p0).toNatClampNeg))).toNatClampNeg) (((hm_alone s) ((fn10_variable s ((hm_opener s) (p0).toNatClampNeg))).toNatClampNeg) + (1 : Int32))))))))
theorem fq10_close (s : hs) (p0 : Int32) : fn10_close s p0 = (if ((hm_sort s) (((hm_opener s) (p0).toNatClampNeg)).toNatClampNeg) = (2 : Int32) then ((p0 + (1 : Int32)), s) else (if 0 ≤ ((hm_saved s) (((hm_deep s) - (1 : Int32))).toNatClampNeg) then ((p0 + (1 : Int32)), (ha_alone (hu_deep s ((hm_deep s) - (1 : Int32))) (((fn10_variable s ((hm_opener s) (p0).toNatClampNeg))).toNatClampNeg) ((hm_saved (hu_deep s ((hm_deep s) - (1 : Int32)))) ((hm_deep (hu_deep s ((hm_deep s) - (1 : Int32))))).toNatClampNeg))) else (if ((((4 : Int32) * (fn10_variable s ((hm_opener s) (p0).toNatClampNeg))) + ((hm_counts s) ((fn10_variable s ((hm_opener s) (p0).toNatClampNeg))).toNatClampNeg)) - (1 : Int32)) ≤ ((hm_alone s) ((fn10_variable s ((hm_opener s) (p0).toNatClampNeg))).toNatClampNeg) then ((p0 + (1 : Int32)), (ha_alone (hu_deep s ((hm_deep s) - (1 : Int32))) (((fn10_variable s ((hm_opener s) (p0).toNatClampNeg))).toNatClampNeg) ((hm_saved (hu_deep s ((hm_deep s) - (1 : Int32)))) ((hm_deep (hu_deep s ((hm_deep s) - (1 : Int32))))).toNatClampNeg))) else ((((hm_opener s) (p0).toNatClampNeg) + (1 : Int32)), (ha_alone s (((fn10_variable s ((hm_opener s) (p0).toNatClampNeg))).toNatClampNeg) (((hm_alone s) ((fn10_variable s ((hm_opener s) (p0).toNatClampNeg))).toNatClampNeg) + (1 : Int32))))))) := Classical.choose_spec (⟨_, rfl⟩ : ∃ z : Int32 × hs, z = (if ((hm_sort s) (((hm_opener s) (p0).toNatClampNeg)).toNatClampNeg) = (2 : Int32) then ((p0 + (1 : Int32)), s) else (if 0 ≤ ((hm_saved s) (((hm_deep s) - (1 : Int32))).toNatClampNeg) then ((p0 + (1 : Int32)), (ha_alone (hu_deep s ((hm_deep s) - (1 : Int32))) (((fn10_variable s ((hm_opener s) (p0).toNatClampNeg))).toNatClampNeg) ((hm_saved (hu_deep s ((hm_deep s) - (1 : Int32)))) ((hm_deep (hu_deep s ((hm_deep s) - (1 : Int32))))).toNatClampNeg))) else (if ((((4 : Int32) * (fn10_variable s ((hm_opener s) (p0).toNatClampNeg))) + ((hm_counts s) ((fn10_variable s ((hm_opener s) (p0).toNatClampNeg))).toNatClampNeg)) - (1 : Int32)) ≤ ((hm_alone s) ((fn10_variable s ((hm_opener s) (p0).toNatClampNeg))).toNatClampNeg) then ((p0 + (1 : Int32)), (ha_alone (hu_deep s ((hm_deep s) - (1 : Int32))) (((fn10_variable s ((hm_opener s) (p0).toNatClampNeg))).toNatClampNeg) ((hm_saved (hu_deep s ((hm_deep s) - (1 : Int32)))) ((hm_deep (hu_deep s ((hm_deep s) - (1 : Int32))))).toNatClampNeg))) else ((((hm_opener s) (p0).toNatClampNeg) + (1 : Int32)), (ha_alone s (((fn10_variable s ((hm_opener s) (p0).toNatClampNeg))).toNatClampNeg) (((hm_alone s) ((fn10_variable s ((hm_opener s) (p0).toNatClampNeg))).toNatClampNeg) + (1 : Int32))))))))
def wp10_close (s : hs) (p0 : Int32) : Prop := (am_inb p0 240 = true ∧ (am_inb ((hm_opener s) (p0).toNatClampNeg) 240 = true ∧ ((((hm_sort s) (((hm_opener s) (p0).toNatClampNeg)).toNatClampNeg) = (2 : Int32) → True) ∧ (¬ ((hm_sort s) (((hm_opener s) (p0).toNatClampNeg)).toNatClampNeg) = (2 : Int32) → ((wp10_variable s ((hm_opener s) (p0).toNatClampNeg)) ∧ (am_inb (fn10_variable s ((hm_opener s) (p0).toNatClampNeg)) 8 = true ∧ (am_inb ((hm_deep s) - (1 : Int32)) 6 = true ∧ ((0 ≤ ((hm_saved s) (((hm_deep s) - (1 : Int32))).toNatClampNeg) → (am_inb (hm_deep (hu_deep s ((hm_deep s) - (1 : Int32)))) 6 = true ∧ (am_inb (fn10_variable s ((hm_opener s) (p0).toNatClampNeg)) 8 = true))) ∧ (¬ 0 ≤ ((hm_saved s) (((hm_deep s) - (1 : Int32))).toNatClampNeg) → (am_inb (fn10_variable s ((hm_opener s) (p0).toNatClampNeg)) 8 = true ∧ ((((((4 : Int32) * (fn10_variable s ((hm_opener s) (p0).toNatClampNeg))) + ((hm_counts s) ((fn10_variable s ((hm_opener s) (p0).toNatClampNeg))).toNatClampNeg)) - (1 : Int32)) ≤ ((hm_alone s) ((fn10_variable s ((hm_opener s) (p0).toNatClampNeg))).toNatClampNeg) → (am_inb (hm_deep (hu_deep s ((hm_deep s) - (1 : Int32)))) 6 = true ∧ (am_inb (fn10_variable s ((hm_opener s) (p0).toNatClampNeg)) 8 = true))) ∧ (¬ ((((4 : Int32) * (fn10_variable s ((hm_opener s) (p0).toNatClampNeg))) + ((hm_counts s) ((fn10_variable s ((hm_opener s) (p0).toNatClampNeg))).toNatClampNeg)) - (1 : Int32)) ≤ ((hm_alone s) ((fn10_variable s ((hm_opener s) (p0).toNatClampNeg))).toNatClampNeg) → (am_inb (fn10_variable s ((hm_opener s) (p0).toNatClampNeg)) 8 = true ∧ (am_inb (fn10_variable s ((hm_opener s) (p0).toNatClampNeg)) 8 = true))))))))))))))
set_option maxRecDepth 100000 in
set_option maxHeartbeats 4000000 in
theorem re10_close (s : hs) (p0 : Int32) (hp : wp10_close s p0) : am_lf (am_mk kb10_close 0 0 22) [] (0, am_L0 [.inr (.inl 0), .inl p0] 5, [], (hm_w s), 0, 0) = some (some (.inl ((fn10_close s p0).1)), (hm_w ((fn10_close s p0).2))) := by
  unfold wp10_close at hp
  refine am_lf_eq ?_
  generalize am_lf (am_mk kb10_close 0 0 22) [] = kt
  refine am_ci (c := am_inb p0 240 = true) hp.1 ?_
  refine am_ci (c := am_inb ((hm_opener s) (p0).toNatClampNeg) 240 = true) hp.2.1 ?_
  refine am_if (c := ((hm_sort s) (((hm_opener s) (p0).toNatClampNeg)).toNatClampNeg) = (2 : Int32)) (fun h1 => ?_) (fun h1 => ?_)
  · have e : fn10_close s p0 = ((p0 + (1 : Int32)), s) := by
      rw [fq10_close]
      rw [if_pos h1]
    rw [e] <;> rfl
  · have q1 := hp.2.2.2 h1
    refine am_cx (pre := pr10_variable) (f := fm10_variable) (r := (some (.inl (fn10_variable s ((hm_opener s) (p0).toNatClampNeg))), (hm_w s), 0, 0)) ?_ ?_ ?_ ?_
    · exact ⟨s, ((hm_opener s) (p0).toNatClampNeg), rfl, rfl, q1.1⟩
    · exact fe10_variable s ((hm_opener s) (p0).toNatClampNeg)
    · exact rfl
    refine am_ci (c := am_inb (fn10_variable s ((hm_opener s) (p0).toNatClampNeg)) 8 = true) q1.2.1 ?_
    refine am_ci (c := am_inb ((hm_deep s) - (1 : Int32)) 6 = true) q1.2.2.1 ?_
    refine am_if (c := 0 ≤ ((hm_saved s) (((hm_deep s) - (1 : Int32))).toNatClampNeg)) (fun h2 => ?_) (fun h2 => ?_)
    · have q2 := q1.2.2.2.1 h2
      refine am_sp (w' := (hm_w (hu_deep s ((hm_deep s) - (1 : Int32))))) (kp_R_0_deep s ((hm_deep s) - (1 : Int32))) ?_
      refine am_ci (c := am_inb (hm_deep (hu_deep s ((hm_deep s) - (1 : Int32)))) 6 = true) q2.1 ?_
      refine am_ci (c := am_inb (fn10_variable s ((hm_opener s) (p0).toNatClampNeg)) 8 = true) q2.2 ?_
      refine am_sp (w' := (hm_w (ha_alone (hu_deep s ((hm_deep s) - (1 : Int32))) (((fn10_variable s ((hm_opener s) (p0).toNatClampNeg))).toNatClampNeg) ((hm_saved (hu_deep s ((hm_deep s) - (1 : Int32)))) ((hm_deep (hu_deep s ((hm_deep s) - (1 : Int32))))).toNatClampNeg)))) (kp_R_0_alone (hu_deep s ((hm_deep s) - (1 : Int32))) (((fn10_variable s ((hm_opener s) (p0).toNatClampNeg))).toNatClampNeg) ((hm_saved (hu_deep s ((hm_deep s) - (1 : Int32)))) ((hm_deep (hu_deep s ((hm_deep s) - (1 : Int32))))).toNatClampNeg)) ?_
      have e : fn10_close s p0 = ((p0 + (1 : Int32)), (ha_alone (hu_deep s ((hm_deep s) - (1 : Int32))) (((fn10_variable s ((hm_opener s) (p0).toNatClampNeg))).toNatClampNeg) ((hm_saved (hu_deep s ((hm_deep s) - (1 : Int32)))) ((hm_deep (hu_deep s ((hm_deep s) - (1 : Int32))))).toNatClampNeg))) := by
        rw [fq10_close]
        rw [if_neg h1, if_pos h2]
      rw [e] <;> rfl
    · have q2 := q1.2.2.2.2 h2
      refine am_ci (c := am_inb (fn10_variable s ((hm_opener s) (p0).toNatClampNeg)) 8 = true) q2.1 ?_
      refine am_if (c := ((((4 : Int32) * (fn10_variable s ((hm_opener s) (p0).toNatClampNeg))) + ((hm_counts s) ((fn10_variable s ((hm_opener s) (p0).toNatClampNeg))).toNatClampNeg)) - (1 : Int32)) ≤ ((hm_alone s) ((fn10_variable s ((hm_opener s) (p0).toNatClampNeg))).toNatClampNeg)) (fun h3 => ?_) (fun h3 => ?_)
      · have q3 := q2.2.1 h3
        refine am_sp (w' := (hm_w (hu_deep s ((hm_deep s) - (1 : Int32))))) (kp_R_0_deep s ((hm_deep s) - (1 : Int32))) ?_
        refine am_ci (c := am_inb (hm_deep (hu_deep s ((hm_deep s) - (1 : Int32)))) 6 = true) q3.1 ?_
        refine am_ci (c := am_inb (fn10_variable s ((hm_opener s) (p0).toNatClampNeg)) 8 = true) q3.2 ?_
        refine am_sp (w' := (hm_w (ha_alone (hu_deep s ((hm_deep s) - (1 : Int32))) (((fn10_variable s ((hm_opener s) (p0).toNatClampNeg))).toNatClampNeg) ((hm_saved (hu_deep s ((hm_deep s) - (1 : Int32)))) ((hm_deep (hu_deep s ((hm_deep s) - (1 : Int32))))).toNatClampNeg)))) (kp_R_0_alone (hu_deep s ((hm_deep s) - (1 : Int32))) (((fn10_variable s ((hm_opener s) (p0).toNatClampNeg))).toNatClampNeg) ((hm_saved (hu_deep s ((hm_deep s) - (1 : Int32)))) ((hm_deep (hu_deep s ((hm_deep s) - (1 : Int32))))).toNatClampNeg)) ?_
        have e : fn10_close s p0 = ((p0 + (1 : Int32)), (ha_alone (hu_deep s ((hm_deep s) - (1 : Int32))) (((fn10_variable s ((hm_opener s) (p0).toNatClampNeg))).toNatClampNeg) ((hm_saved (hu_deep s ((hm_deep s) - (1 : Int32)))) ((hm_deep (hu_deep s ((hm_deep s) - (1 : Int32))))).toNatClampNeg))) := by
          rw [fq10_close]
          rw [if_neg h1, if_neg h2, if_pos h3]
        rw [e] <;> rfl
      · have q3 := q2.2.2 h3
        refine am_ci (c := am_inb (fn10_variable s ((hm_opener s) (p0).toNatClampNeg)) 8 = true) q3.1 ?_
        refine am_ci (c := am_inb (fn10_variable s ((hm_opener s) (p0).toNatClampNeg)) 8 = true) q3.2 ?_
        refine am_sp (w' := (hm_w (ha_alone s (((fn10_variable s ((hm_opener s) (p0).toNatClampNeg))).toNatClampNeg) (((hm_alone s) ((fn10_variable s ((hm_opener s) (p0).toNatClampNeg))).toNatClampNeg) + (1 : Int32))))) (kp_R_0_alone s (((fn10_variable s ((hm_opener s) (p0).toNatClampNeg))).toNatClampNeg) (((hm_alone s) ((fn10_variable s ((hm_opener s) (p0).toNatClampNeg))).toNatClampNeg) + (1 : Int32))) ?_
        have e : fn10_close s p0 = ((((hm_opener s) (p0).toNatClampNeg) + (1 : Int32)), (ha_alone s (((fn10_variable s ((hm_opener s) (p0).toNatClampNeg))).toNatClampNeg) (((hm_alone s) ((fn10_variable s ((hm_opener s) (p0).toNatClampNeg))).toNatClampNeg) + (1 : Int32)))) := by
          rw [fq10_close]
          rw [if_neg h1, if_neg h2, if_neg h3]
        rw [e] <;> rfl
abbrev pr10_close : List am_V → List am_C → Prop := fun a w => ∃ (s : hs) (p0 : Int32), a = [.inr (.inl 0), .inl p0] ∧ w = (hm_w s) ∧ wp10_close s p0
noncomputable def fm10_close : am_M := fun a w => (fun (z : Int32 × hs) => (some (.inl (z.1)), (hm_w (z.2)), 0, 0)) (fn10_close (hm_st w 0) (am_i (am_an a 1)))
theorem fe10_close (s : hs) (p0 : Int32) : fm10_close [.inr (.inl 0), .inl p0] (hm_w s) = (some (.inl ((fn10_close s p0).1)), (hm_w ((fn10_close s p0).2)), 0, 0) := rfl
set_option maxRecDepth 100000 in
set_option maxHeartbeats 4000000 in
theorem rn10_close : ∀ (a : List am_V) (w : List am_C), pr10_close a w → ∃ nq, am_ev (am_mk kb10_close (fm10_close a w).2.2.1 (fm10_close a w).2.2.2 w.length) [] nq (0, am_L0 a 5, [], w, 0, 0) = some ((fm10_close a w).1, (fm10_close a w).2.1) := by
  rintro a w ⟨s, p0, rfl, rfl, hp⟩
  rw [fe10_close s p0]
  exact am_lf_ev (re10_close s p0 hp)
theorem rl10_close : ∀ (a : List am_V) (w : List am_C), pr10_close a w → a.length ≤ 5 := by
  rintro a w ⟨s, p0, rfl, rfl, hp⟩
  exact Nat.le_of_ble_eq_true rfl
theorem pa10_close : ∀ a w, pr10_close a w → ∃ q a' ci fs r, a = .inr (.inl q) :: a' ∧ w[q]? = some (.inr (ci, fs)) ∧ hn_cl[ci]? = some r ∧ r.1 = hn_R10 := by
  rintro a w ⟨s, p0, rfl, rfl, hp⟩
  exact ⟨0, _, 10, _, _, rfl, rfl, rfl, rfl⟩
set_option maxRecDepth 100000 in
set_option maxHeartbeats 4000000 in
theorem km10_close {l : Launch} {E : (Nat → Prop) → State → Prop} {D : va_G} {ou : Nat → Nat} {ca : Nat → ClassId} (hE : am_EC E) : hg_Met l E D ou ca hy10_close prog_12_method_72_code 5 (some .int) 1 pr10_close fm10_close := by
  refine am_met (B := kb10_close) (cuts := []) (nt := 5) (by decide +kernel) rfl rfl (hg_tys_ok ca) ?_ (by decide) rl10_close ?_ rn10_close
  · exact fun t ht => List.mem_cons_of_mem _ (hg_arr t ht)
  · intro a w hp ad p e R s m args below meth c hR X hEs hnm
    have hR1 : 1 ≤ R.frames ∧ 40 ≤ R.locals := by rw [hR]; exact ⟨Nat.le_refl _, Nat.le_refl _⟩
    refine ⟨kd10_close_ok, fun index ci fi mode hq => kf10_ok X.2.2.2.2.1 (index, ci, fi, mode) (am_as_mem hq), fun index ci fs hq => (am_no hq).elim, fun x v hq => (am_no hq).elim, ?_, fun o t n f hq => (am_no hq).elim, rfl, rfl, by rw [hR]; exact Nat.le_refl _, by rw [hR]; exact Nat.le_refl _⟩
    intro pc sel n0 pre0 f0 hq
    have hz : ∀ q ∈ ki10_close, am_CK p l e R s m args below meth c D hn_cl (va_A (am_w ad ou ca w) s.heap.size) ou ca 5 q.1 q.2.2.1 q.2.2.2.1 q.2.2.2.2 := by
      refine am_allc (am_ck_V (n := 1) X hEs hE (km10_variable hE) (hg_good (gw_mem 1296 (by decide +kernel))) rfl (List.mem_cons_of_mem _ (gw_mem 76 (by decide +kernel))) (List.mem_cons_of_mem _ (gw_mem 1293 (by decide +kernel))) (List.mem_cons_of_mem _ (gw_mem 1295 (by decide +kernel))) (List.mem_cons_of_mem _ (gw_mem 50 (by decide +kernel))) pa10_variable (by decide +kernel) ⟨Nat.le_trans (by decide) hR1.1, Nat.le_trans (by decide) hR1.2⟩ (kd10_close_ok (23, .invokevirtual 303, 3) (List.mem_of_getElem? (i := 17) rfl))) (am_all0)
    exact hz _ (am_as_mem hq)
noncomputable def ki10_write : List (Nat × Option (List Nat) × Nat × (List am_V → List am_C → Prop) × am_M) := [(77, none, 2, pr10_put, fm10_put), (103, none, 2, pr10_variable, fm10_variable), (106, none, 2, pr10_firstItem, fm10_firstItem), (109, none, 3, pr10_putItem, fm10_putItem), (127, none, 2, pr10_choose, fm10_choose), (146, none, 2, pr10_beginLoop, fm10_beginLoop), (182, none, 2, pr10_close, fm10_close)]
noncomputable def kb10_write : am_B := (kd10_write, am_as kf10, hn_ty, fun _ => none, fun _ => none, am_as ki10_write, fun _ => none, 5, 3, (some .int))
noncomputable def fn10_write_c244 (s : hs) (u0 : Int32) : Int32 × hs := ((hm_size (hu_size s u0)), (hu_size s u0))
def wp10_write_c244 (s : hs) (u0 : Int32) : Prop := True
set_option maxRecDepth 100000 in
set_option maxHeartbeats 4000000 in
theorem rc10_write_244 (s : hs) (u0 : Int32) (j1 : Option am_V) (j2 : Option am_V) (g1 : am_loO 22 j1 = true) (g2 : am_loO 22 j2 = true) (hp : wp10_write_c244 s u0) : am_lf (am_mk kb10_write 0 0 22) [13, 16, 30, 35, 40, 42, 191, 193, 225, 228, 244] (244, [some (.inr (.inl 0)), j1, j2], [.inl u0, .inr (.inl 0)], (hm_w s), 0, 0) = some (some (.inl ((fn10_write_c244 s u0).1)), (hm_w ((fn10_write_c244 s u0).2))) := by
  unfold wp10_write_c244 at hp
  refine am_lf_eq ?_
  generalize am_lf (am_mk kb10_write 0 0 22) [13, 16, 30, 35, 40, 42, 191, 193, 225, 228, 244] = kt
  refine am_sp (w' := (hm_w (hu_size s u0))) (kp_R_0_size s u0) ?_
  have e : fn10_write_c244 s u0 = ((hm_size (hu_size s u0)), (hu_size s u0)) := by
    rw [fn10_write_c244]
  rw [e] <;> rfl
noncomputable def fn10_write_c228 (s : hs) : Int32 × hs := (if (hm_full s) = 0 then (fn10_write_c244 s (hm_size s)) else (fn10_write_c244 s (0 : Int32)))
def wp10_write_c228 (s : hs) : Prop := (((hm_full s) = 0 → (wp10_write_c244 s (hm_size s))) ∧ (¬ (hm_full s) = 0 → (wp10_write_c244 s (0 : Int32))))
set_option maxRecDepth 100000 in
set_option maxHeartbeats 4000000 in
theorem rc10_write_228 (s : hs) (j1 : Option am_V) (j2 : Option am_V) (g1 : am_loO 22 j1 = true) (g2 : am_loO 22 j2 = true) (hp : wp10_write_c228 s) : am_lf (am_mk kb10_write 0 0 22) [13, 16, 30, 35, 40, 42, 191, 193, 225, 228, 244] (228, [some (.inr (.inl 0)), j1, j2], [], (hm_w s), 0, 0) = some (some (.inl ((fn10_write_c228 s).1)), (hm_w ((fn10_write_c228 s).2))) := by
  unfold wp10_write_c228 at hp
  have i244 := @rc10_write_244
  refine am_lf_eq ?_
  generalize am_lf (am_mk kb10_write 0 0 22) [13, 16, 30, 35, 40, 42, 191, 193, 225, 228, 244] = kt at i244 ⊢
  refine am_if (c := (hm_full s) = 0) (fun h1 => ?_) (fun h1 => ?_)
  · have q1 := hp.1 h1
    have e : fn10_write_c228 s = fn10_write_c244 s (hm_size s) := by
      rw [fn10_write_c228]
      rw [if_pos h1]
    rw [e]
    exact i244 s (hm_size s) _ _ g1 g2 q1
  · have q1 := hp.2 h1
    have e : fn10_write_c228 s = fn10_write_c244 s (0 : Int32) := by
      rw [fn10_write_c228]
      rw [if_neg h1]
    rw [e]
    exact i244 s (0 : Int32) _ _ g1 g2 q1
noncomputable def fn10_write_c225 (s : hs) (u0 : Int32) : Int32 × hs := (fn10_write_c228 (hu_thrown s u0))
def wp10_write_c225 (s : hs) (u0 : Int32) : Prop := (wp10_write_c228 (hu_thrown s u0))
set_option maxRecDepth 100000 in
set_option maxHeartbeats 4000000 in
theorem rc10_write_225 (s : hs) (u0 : Int32) (j1 : Option am_V) (j2 : Option am_V) (g1 : am_loO 22 j1 = true) (g2 : am_loO 22 j2 = true) (hp : wp10_write_c225 s u0) : am_lf (am_mk kb10_write 0 0 22) [13, 16, 30, 35, 40, 42, 191, 193, 225, 228, 244] (225, [some (.inr (.inl 0)), j1, j2], [.inl u0, .inr (.inl 0)], (hm_w s), 0, 0) = some (some (.inl ((fn10_write_c225 s u0).1)), (hm_w ((fn10_write_c225 s u0).2))) := by
  unfold wp10_write_c225 at hp
  have i228 := @rc10_write_228
  refine am_lf_eq ?_
  generalize am_lf (am_mk kb10_write 0 0 22) [13, 16, 30, 35, 40, 42, 191, 193, 225, 228, 244] = kt at i228 ⊢
  refine am_sp (w' := (hm_w (hu_thrown s u0))) (kp_R_0_thrown s u0) ?_
  have e : fn10_write_c225 s u0 = fn10_write_c228 (hu_thrown s u0) := by
    rw [fn10_write_c225]
  rw [e]
  exact i228 (hu_thrown s u0) _ _ g1 g2 hp
noncomputable def fn10_write_c193 : Nat → hs → Int32 → Int32 × hs
  | 0, s, _ => (0, s)
  | fu + 1, s, v2 => (if (8 : Int32) ≤ v2 then (if (hm_full s) = 0 then (fn10_write_c225 s (0 : Int32)) else (fn10_write_c225 s (2 : Int32))) else (fn10_write_c193 fu (ha_alone s ((v2).toNatClampNeg) (-1 : Int32)) (v2 + (1 : Int32))))
def wp10_write_c193 : Nat → hs → Int32 → Prop
  | 0, _, _ => False
  | fu + 1, s, v2 => (((8 : Int32) ≤ v2 → (((hm_full s) = 0 → (wp10_write_c225 s (0 : Int32))) ∧ (¬ (hm_full s) = 0 → (wp10_write_c225 s (2 : Int32))))) ∧ (¬ (8 : Int32) ≤ v2 → (am_inb v2 8 = true ∧ (wp10_write_c193 fu (ha_alone s ((v2).toNatClampNeg) (-1 : Int32)) (v2 + (1 : Int32))))))
set_option maxRecDepth 100000 in
set_option maxHeartbeats 4000000 in
theorem rc10_write_193 : ∀ (fu : Nat) (s : hs) (v2 : Int32) (j1 : Option am_V) (g1 : am_loO 22 j1 = true) , wp10_write_c193 fu s v2 → am_lf (am_mk kb10_write 0 0 22) [13, 16, 30, 35, 40, 42, 191, 193, 225, 228, 244] (193, [some (.inr (.inl 0)), j1, some (.inl v2)], [], (hm_w s), 0, 0) = some (some (.inl ((fn10_write_c193 fu s v2).1)), (hm_w ((fn10_write_c193 fu s v2).2))) := by
  intro fu
  induction fu with
  | zero =>
    intro s v2 j1 g1 hp
    exact hp.elim
  | succ fu ih =>
    intro s v2 j1 g1 hp
    unfold wp10_write_c193 at hp
    have i225 := @rc10_write_225
    refine am_lf_eq ?_
    generalize am_lf (am_mk kb10_write 0 0 22) [13, 16, 30, 35, 40, 42, 191, 193, 225, 228, 244] = kt at i225 ih ⊢
    refine am_if (c := (8 : Int32) ≤ v2) (fun h2 => ?_) (fun h2 => ?_)
    · have q2 := hp.1 h2
      refine am_if (c := (hm_full s) = 0) (fun h3 => ?_) (fun h3 => ?_)
      · have q3 := q2.1 h3
        have e : fn10_write_c193 (fu + 1) s v2 = fn10_write_c225 s (0 : Int32) := by
          rw [fn10_write_c193]
          rw [if_pos h2, if_pos h3]
        rw [e]
        exact i225 s (0 : Int32) _ _ g1 rfl q3
      · have q3 := q2.2 h3
        have e : fn10_write_c193 (fu + 1) s v2 = fn10_write_c225 s (2 : Int32) := by
          rw [fn10_write_c193]
          rw [if_pos h2, if_neg h3]
        rw [e]
        exact i225 s (2 : Int32) _ _ g1 rfl q3
    · have q2 := hp.2 h2
      refine am_ci (c := am_inb v2 8 = true) q2.1 ?_
      refine am_sp (w' := (hm_w (ha_alone s ((v2).toNatClampNeg) (-1 : Int32)))) (kp_R_0_alone s ((v2).toNatClampNeg) (-1 : Int32)) ?_
      have e : fn10_write_c193 (fu + 1) s v2 = fn10_write_c193 fu (ha_alone s ((v2).toNatClampNeg) (-1 : Int32)) (v2 + (1 : Int32)) := by
        rw [fn10_write_c193]
        rw [if_neg h2]
      rw [e]
      exact ih (ha_alone s ((v2).toNatClampNeg) (-1 : Int32)) (v2 + (1 : Int32)) _ g1 q2.2
noncomputable def fn10_write_c191 (s : hs) : Int32 × hs := (fn10_write_c193 hg_fw s (0 : Int32))
def wp10_write_c191 (s : hs) : Prop := (wp10_write_c193 hg_fw s (0 : Int32))
set_option maxRecDepth 100000 in
set_option maxHeartbeats 4000000 in
theorem rc10_write_191 (s : hs) (j1 : Option am_V) (j2 : Option am_V) (g1 : am_loO 22 j1 = true) (g2 : am_loO 22 j2 = true) (hp : wp10_write_c191 s) : am_lf (am_mk kb10_write 0 0 22) [13, 16, 30, 35, 40, 42, 191, 193, 225, 228, 244] (191, [some (.inr (.inl 0)), j1, j2], [], (hm_w s), 0, 0) = some (some (.inl ((fn10_write_c191 s).1)), (hm_w ((fn10_write_c191 s).2))) := by
  unfold wp10_write_c191 at hp
  have i193 := @rc10_write_193
  refine am_lf_eq ?_
  generalize am_lf (am_mk kb10_write 0 0 22) [13, 16, 30, 35, 40, 42, 191, 193, 225, 228, 244] = kt at i193 ⊢
  have e : fn10_write_c191 s = fn10_write_c193 hg_fw s (0 : Int32) := by
    rw [fn10_write_c191]
  rw [e]
  exact i193 hg_fw s (0 : Int32) _ g1 hp
noncomputable def fn10_write_c42 : Nat → hs → Int32 → Int32 × hs
  | 0, s, _ => (0, s)
  | fu + 1, s, v1 => (if (hm_symbols s) ≤ v1 then (fn10_write_c191 s) else (if (hm_full s) = 0 then (if ((hm_sort s) (v1).toNatClampNeg) = 0 then (fn10_write_c42 fu (fn10_put s ((hm_sign s) (v1).toNatClampNeg)) (v1 + (1 : Int32))) else (if ((hm_sort s) (v1).toNatClampNeg) = (1 : Int32) then (fn10_write_c42 fu (fn10_putItem s ((hm_marked s) (v1).toNatClampNeg) (fn10_firstItem s (fn10_variable s v1))) (v1 + (1 : Int32))) else (if ((hm_sort s) (v1).toNatClampNeg) = (2 : Int32) then (fn10_write_c42 fu s (fn10_choose s v1)) else (if ((hm_sort s) (v1).toNatClampNeg) = (3 : Int32) then (fn10_write_c42 fu ((fn10_beginLoop s v1).2) ((fn10_beginLoop s v1).1)) else (if ((hm_sort s) (v1).toNatClampNeg) = (4 : Int32) then (fn10_write_c42 fu s (((hm_closing s) (((hm_opener s) (v1).toNatClampNeg)).toNatClampNeg) + (1 : Int32))) else (fn10_write_c42 fu ((fn10_close s v1).2) ((fn10_close s v1).1))))))) else (fn10_write_c191 s)))
def wp10_write_c42 : Nat → hs → Int32 → Prop
  | 0, _, _ => False
  | fu + 1, s, v1 => (((hm_symbols s) ≤ v1 → (wp10_write_c191 s)) ∧ (¬ (hm_symbols s) ≤ v1 → (((hm_full s) = 0 → (am_inb v1 240 = true ∧ ((((hm_sort s) (v1).toNatClampNeg) = 0 → (am_inb v1 240 = true ∧ ((wp10_put s ((hm_sign s) (v1).toNatClampNeg)) ∧ (wp10_write_c42 fu (fn10_put s ((hm_sign s) (v1).toNatClampNeg)) (v1 + (1 : Int32)))))) ∧ (¬ ((hm_sort s) (v1).toNatClampNeg) = 0 → (am_inb v1 240 = true ∧ ((((hm_sort s) (v1).toNatClampNeg) = (1 : Int32) → (am_inb v1 240 = true ∧ ((wp10_variable s v1) ∧ ((wp10_firstItem s (fn10_variable s v1)) ∧ ((wp10_putItem s ((hm_marked s) (v1).toNatClampNeg) (fn10_firstItem s (fn10_variable s v1))) ∧ (wp10_write_c42 fu (fn10_putItem s ((hm_marked s) (v1).toNatClampNeg) (fn10_firstItem s (fn10_variable s v1))) (v1 + (1 : Int32)))))))) ∧ (¬ ((hm_sort s) (v1).toNatClampNeg) = (1 : Int32) → (am_inb v1 240 = true ∧ ((((hm_sort s) (v1).toNatClampNeg) = (2 : Int32) → ((wp10_choose s v1) ∧ (wp10_write_c42 fu s (fn10_choose s v1)))) ∧ (¬ ((hm_sort s) (v1).toNatClampNeg) = (2 : Int32) → (am_inb v1 240 = true ∧ ((((hm_sort s) (v1).toNatClampNeg) = (3 : Int32) → ((wp10_beginLoop s v1) ∧ (wp10_write_c42 fu ((fn10_beginLoop s v1).2) ((fn10_beginLoop s v1).1)))) ∧ (¬ ((hm_sort s) (v1).toNatClampNeg) = (3 : Int32) → (am_inb v1 240 = true ∧ ((((hm_sort s) (v1).toNatClampNeg) = (4 : Int32) → (am_inb v1 240 = true ∧ (am_inb ((hm_opener s) (v1).toNatClampNeg) 240 = true ∧ (wp10_write_c42 fu s (((hm_closing s) (((hm_opener s) (v1).toNatClampNeg)).toNatClampNeg) + (1 : Int32)))))) ∧ (¬ ((hm_sort s) (v1).toNatClampNeg) = (4 : Int32) → ((wp10_close s v1) ∧ (wp10_write_c42 fu ((fn10_close s v1).2) ((fn10_close s v1).1))))))))))))))))))) ∧ (¬ (hm_full s) = 0 → (wp10_write_c191 s)))))
set_option maxRecDepth 100000 in
set_option maxHeartbeats 4000000 in
theorem rc10_write_42 : ∀ (fu : Nat) (s : hs) (v1 : Int32) (j2 : Option am_V) (g2 : am_loO 22 j2 = true) , wp10_write_c42 fu s v1 → am_lf (am_mk kb10_write 0 0 22) [13, 16, 30, 35, 40, 42, 191, 193, 225, 228, 244] (42, [some (.inr (.inl 0)), some (.inl v1), j2], [], (hm_w s), 0, 0) = some (some (.inl ((fn10_write_c42 fu s v1).1)), (hm_w ((fn10_write_c42 fu s v1).2))) := by
  intro fu
  induction fu with
  | zero =>
    intro s v1 j2 g2 hp
    exact hp.elim
  | succ fu ih =>
    intro s v1 j2 g2 hp
    unfold wp10_write_c42 at hp
    have i191 := @rc10_write_191
    refine am_lf_eq ?_
    generalize am_lf (am_mk kb10_write 0 0 22) [13, 16, 30, 35, 40, 42, 191, 193, 225, 228, 244] = kt at i191 ih ⊢
    refine am_if (c := (hm_symbols s) ≤ v1) (fun h2 => ?_) (fun h2 => ?_)
    · have q2 := hp.1 h2
      have e : fn10_write_c42 (fu + 1) s v1 = fn10_write_c191 s := by
        rw [fn10_write_c42]
        rw [if_pos h2]
      rw [e]
      exact i191 s _ _ rfl g2 q2
    · have q2 := hp.2 h2
      refine am_if (c := (hm_full s) = 0) (fun h3 => ?_) (fun h3 => ?_)
      · have q3 := q2.1 h3
        refine am_ci (c := am_inb v1 240 = true) q3.1 ?_
        refine am_if (c := ((hm_sort s) (v1).toNatClampNeg) = 0) (fun h4 => ?_) (fun h4 => ?_)
        · have q4 := q3.2.1 h4
          refine am_ci (c := am_inb v1 240 = true) q4.1 ?_
          refine am_cx (pre := pr10_put) (f := fm10_put) (r := (none, (hm_w (fn10_put s ((hm_sign s) (v1).toNatClampNeg))), 0, 0)) ?_ ?_ ?_ ?_
          · exact ⟨s, ((hm_sign s) (v1).toNatClampNeg), rfl, rfl, q4.2.1⟩
          · exact fe10_put s ((hm_sign s) (v1).toNatClampNeg)
          · exact rfl
          have e : fn10_write_c42 (fu + 1) s v1 = fn10_write_c42 fu (fn10_put s ((hm_sign s) (v1).toNatClampNeg)) (v1 + (1 : Int32)) := by
            rw [fn10_write_c42]
            rw [if_neg h2, if_pos h3, if_pos h4]
          rw [e]
          exact ih (fn10_put s ((hm_sign s) (v1).toNatClampNeg)) (v1 + (1 : Int32)) _ rfl q4.2.2
        · have q4 := q3.2.2 h4
          refine am_ci (c := am_inb v1 240 = true) q4.1 ?_
          refine am_if (c := ((hm_sort s) (v1).toNatClampNeg) = (1 : Int32)) (fun h5 => ?_) (fun h5 => ?_)
          · have q5 := q4.2.1 h5
            refine am_ci (c := am_inb v1 240 = true) q5.1 ?_
            refine am_cx (pre := pr10_variable) (f := fm10_variable) (r := (some (.inl (fn10_variable s v1)), (hm_w s), 0, 0)) ?_ ?_ ?_ ?_
            · exact ⟨s, v1, rfl, rfl, q5.2.1⟩
            · exact fe10_variable s v1
            · exact rfl
            refine am_cx (pre := pr10_firstItem) (f := fm10_firstItem) (r := (some (.inl (fn10_firstItem s (fn10_variable s v1))), (hm_w s), 0, 0)) ?_ ?_ ?_ ?_
            · exact ⟨s, (fn10_variable s v1), rfl, rfl, q5.2.2.1⟩
            · exact fe10_firstItem s (fn10_variable s v1)
            · exact rfl
            refine am_cx (pre := pr10_putItem) (f := fm10_putItem) (r := (none, (hm_w (fn10_putItem s ((hm_marked s) (v1).toNatClampNeg) (fn10_firstItem s (fn10_variable s v1)))), 0, 0)) ?_ ?_ ?_ ?_
            · exact ⟨s, ((hm_marked s) (v1).toNatClampNeg), (fn10_firstItem s (fn10_variable s v1)), rfl, rfl, q5.2.2.2.1⟩
            · exact fe10_putItem s ((hm_marked s) (v1).toNatClampNeg) (fn10_firstItem s (fn10_variable s v1))
            · exact rfl
            have e : fn10_write_c42 (fu + 1) s v1 = fn10_write_c42 fu (fn10_putItem s ((hm_marked s) (v1).toNatClampNeg) (fn10_firstItem s (fn10_variable s v1))) (v1 + (1 : Int32)) := by
              rw [fn10_write_c42]
              rw [if_neg h2, if_pos h3, if_neg h4, if_pos h5]
            rw [e]
            exact ih (fn10_putItem s ((hm_marked s) (v1).toNatClampNeg) (fn10_firstItem s (fn10_variable s v1))) (v1 + (1 : Int32)) _ rfl q5.2.2.2.2
          · have q5 := q4.2.2 h5
            refine am_ci (c := am_inb v1 240 = true) q5.1 ?_
            refine am_if (c := ((hm_sort s) (v1).toNatClampNeg) = (2 : Int32)) (fun h6 => ?_) (fun h6 => ?_)
            · have q6 := q5.2.1 h6
              refine am_cx (pre := pr10_choose) (f := fm10_choose) (r := (some (.inl (fn10_choose s v1)), (hm_w s), 0, 0)) ?_ ?_ ?_ ?_
              · exact ⟨s, v1, rfl, rfl, q6.1⟩
              · exact fe10_choose s v1
              · exact rfl
              have e : fn10_write_c42 (fu + 1) s v1 = fn10_write_c42 fu s (fn10_choose s v1) := by
                rw [fn10_write_c42]
                rw [if_neg h2, if_pos h3, if_neg h4, if_neg h5, if_pos h6]
              rw [e]
              exact ih s (fn10_choose s v1) _ rfl q6.2
            · have q6 := q5.2.2 h6
              refine am_ci (c := am_inb v1 240 = true) q6.1 ?_
              refine am_if (c := ((hm_sort s) (v1).toNatClampNeg) = (3 : Int32)) (fun h7 => ?_) (fun h7 => ?_)
              · have q7 := q6.2.1 h7
                refine am_cx (pre := pr10_beginLoop) (f := fm10_beginLoop) (r := (some (.inl ((fn10_beginLoop s v1).1)), (hm_w ((fn10_beginLoop s v1).2)), 0, 0)) ?_ ?_ ?_ ?_
                · exact ⟨s, v1, rfl, rfl, q7.1⟩
                · exact fe10_beginLoop s v1
                · exact rfl
                have e : fn10_write_c42 (fu + 1) s v1 = fn10_write_c42 fu ((fn10_beginLoop s v1).2) ((fn10_beginLoop s v1).1) := by
                  rw [fn10_write_c42]
                  rw [if_neg h2, if_pos h3, if_neg h4, if_neg h5, if_neg h6, if_pos h7]
                rw [e]
                exact ih ((fn10_beginLoop s v1).2) ((fn10_beginLoop s v1).1) _ rfl q7.2
              · have q7 := q6.2.2 h7
                refine am_ci (c := am_inb v1 240 = true) q7.1 ?_
                refine am_if (c := ((hm_sort s) (v1).toNatClampNeg) = (4 : Int32)) (fun h8 => ?_) (fun h8 => ?_)
                · have q8 := q7.2.1 h8
                  refine am_ci (c := am_inb v1 240 = true) q8.1 ?_
                  refine am_ci (c := am_inb ((hm_opener s) (v1).toNatClampNeg) 240 = true) q8.2.1 ?_
                  have e : fn10_write_c42 (fu + 1) s v1 = fn10_write_c42 fu s (((hm_closing s) (((hm_opener s) (v1).toNatClampNeg)).toNatClampNeg) + (1 : Int32)) := by
                    rw [fn10_write_c42]
                    rw [if_neg h2, if_pos h3, if_neg h4, if_neg h5, if_neg h6, if_neg h7, if_pos h8]
                  rw [e]
                  exact ih s (((hm_closing s) (((hm_opener s) (v1).toNatClampNeg)).toNatClampNeg) + (1 : Int32)) _ rfl q8.2.2
                · have q8 := q7.2.2 h8
                  refine am_cx (pre := pr10_close) (f := fm10_close) (r := (some (.inl ((fn10_close s v1).1)), (hm_w ((fn10_close s v1).2)), 0, 0)) ?_ ?_ ?_ ?_
                  · exact ⟨s, v1, rfl, rfl, q8.1⟩
                  · exact fe10_close s v1
                  · exact rfl
                  have e : fn10_write_c42 (fu + 1) s v1 = fn10_write_c42 fu ((fn10_close s v1).2) ((fn10_close s v1).1) := by
                    rw [fn10_write_c42]
                    rw [if_neg h2, if_pos h3, if_neg h4, if_neg h5, if_neg h6, if_neg h7, if_neg h8]
                  rw [e]
                  exact ih ((fn10_close s v1).2) ((fn10_close s v1).1) _ rfl q8.2
      · have q3 := q2.2 h3
        have e : fn10_write_c42 (fu + 1) s v1 = fn10_write_c191 s := by
          rw [fn10_write_c42]
          rw [if_neg h2, if_neg h3]
        rw [e]
        exact i191 s _ _ rfl g2 q3
noncomputable def fn10_write_c40 (s : hs) : Int32 × hs := (fn10_write_c42 hg_fw s (0 : Int32))
def wp10_write_c40 (s : hs) : Prop := (wp10_write_c42 hg_fw s (0 : Int32))
set_option maxRecDepth 100000 in
set_option maxHeartbeats 4000000 in
theorem rc10_write_40 (s : hs) (j1 : Option am_V) (j2 : Option am_V) (g1 : am_loO 22 j1 = true) (g2 : am_loO 22 j2 = true) (hp : wp10_write_c40 s) : am_lf (am_mk kb10_write 0 0 22) [13, 16, 30, 35, 40, 42, 191, 193, 225, 228, 244] (40, [some (.inr (.inl 0)), j1, j2], [], (hm_w s), 0, 0) = some (some (.inl ((fn10_write_c40 s).1)), (hm_w ((fn10_write_c40 s).2))) := by
  unfold wp10_write_c40 at hp
  have i42 := @rc10_write_42
  refine am_lf_eq ?_
  generalize am_lf (am_mk kb10_write 0 0 22) [13, 16, 30, 35, 40, 42, 191, 193, 225, 228, 244] = kt at i42 ⊢
  have e : fn10_write_c40 s = fn10_write_c42 hg_fw s (0 : Int32) := by
    rw [fn10_write_c40]
  rw [e]
  exact i42 hg_fw s (0 : Int32) _ g2 hp
noncomputable def fn10_write_c35 (s : hs) : Int32 × hs := (fn10_write_c40 (hu_deep s (0 : Int32)))
def wp10_write_c35 (s : hs) : Prop := (wp10_write_c40 (hu_deep s (0 : Int32)))
set_option maxRecDepth 100000 in
set_option maxHeartbeats 4000000 in
theorem rc10_write_35 (s : hs) (j1 : Option am_V) (j2 : Option am_V) (g1 : am_loO 22 j1 = true) (g2 : am_loO 22 j2 = true) (hp : wp10_write_c35 s) : am_lf (am_mk kb10_write 0 0 22) [13, 16, 30, 35, 40, 42, 191, 193, 225, 228, 244] (35, [some (.inr (.inl 0)), j1, j2], [], (hm_w s), 0, 0) = some (some (.inl ((fn10_write_c35 s).1)), (hm_w ((fn10_write_c35 s).2))) := by
  unfold wp10_write_c35 at hp
  have i40 := @rc10_write_40
  refine am_lf_eq ?_
  generalize am_lf (am_mk kb10_write 0 0 22) [13, 16, 30, 35, 40, 42, 191, 193, 225, 228, 244] = kt at i40 ⊢
  refine am_sp (w' := (hm_w (hu_deep s (0 : Int32)))) (kp_R_0_deep s (0 : Int32)) ?_
  have e : fn10_write_c35 s = fn10_write_c40 (hu_deep s (0 : Int32)) := by
    rw [fn10_write_c35]
  rw [e]
  exact i40 (hu_deep s (0 : Int32)) _ _ g1 g2 hp
noncomputable def fn10_write_c30 (s : hs) : Int32 × hs := (fn10_write_c35 (hu_full s (0 : Int32)))
def wp10_write_c30 (s : hs) : Prop := (wp10_write_c35 (hu_full s (0 : Int32)))
set_option maxRecDepth 100000 in
set_option maxHeartbeats 4000000 in
theorem rc10_write_30 (s : hs) (j1 : Option am_V) (j2 : Option am_V) (g1 : am_loO 22 j1 = true) (g2 : am_loO 22 j2 = true) (hp : wp10_write_c30 s) : am_lf (am_mk kb10_write 0 0 22) [13, 16, 30, 35, 40, 42, 191, 193, 225, 228, 244] (30, [some (.inr (.inl 0)), j1, j2], [], (hm_w s), 0, 0) = some (some (.inl ((fn10_write_c30 s).1)), (hm_w ((fn10_write_c30 s).2))) := by
  unfold wp10_write_c30 at hp
  have i35 := @rc10_write_35
  refine am_lf_eq ?_
  generalize am_lf (am_mk kb10_write 0 0 22) [13, 16, 30, 35, 40, 42, 191, 193, 225, 228, 244] = kt at i35 ⊢
  refine am_sp (w' := (hm_w (hu_full s (0 : Int32)))) (kp_R_0_full s (0 : Int32)) ?_
  have e : fn10_write_c30 s = fn10_write_c35 (hu_full s (0 : Int32)) := by
    rw [fn10_write_c30]
  rw [e]
  exact i35 (hu_full s (0 : Int32)) _ _ g1 g2 hp
noncomputable def fn10_write_c16 (s : hs) : Int32 × hs := (if (hm_thrown s) ≤ 0 then (fn10_write_c30 (hu_size s (0 : Int32))) else ((0 : Int32), s))
def wp10_write_c16 (s : hs) : Prop := (((hm_thrown s) ≤ 0 → (wp10_write_c30 (hu_size s (0 : Int32)))) ∧ (¬ (hm_thrown s) ≤ 0 → True))
set_option maxRecDepth 100000 in
set_option maxHeartbeats 4000000 in
theorem rc10_write_16 (s : hs) (j1 : Option am_V) (j2 : Option am_V) (g1 : am_loO 22 j1 = true) (g2 : am_loO 22 j2 = true) (hp : wp10_write_c16 s) : am_lf (am_mk kb10_write 0 0 22) [13, 16, 30, 35, 40, 42, 191, 193, 225, 228, 244] (16, [some (.inr (.inl 0)), j1, j2], [], (hm_w s), 0, 0) = some (some (.inl ((fn10_write_c16 s).1)), (hm_w ((fn10_write_c16 s).2))) := by
  unfold wp10_write_c16 at hp
  have i30 := @rc10_write_30
  refine am_lf_eq ?_
  generalize am_lf (am_mk kb10_write 0 0 22) [13, 16, 30, 35, 40, 42, 191, 193, 225, 228, 244] = kt at i30 ⊢
  refine am_if (c := (hm_thrown s) ≤ 0) (fun h1 => ?_) (fun h1 => ?_)
  · have q1 := hp.1 h1
    refine am_sp (w' := (hm_w (hu_size s (0 : Int32)))) (kp_R_0_size s (0 : Int32)) ?_
    have e : fn10_write_c16 s = fn10_write_c30 (hu_size s (0 : Int32)) := by
      rw [fn10_write_c16]
      rw [if_pos h1]
    rw [e]
    exact i30 (hu_size s (0 : Int32)) _ _ g1 g2 q1
  · have e : fn10_write_c16 s = ((0 : Int32), s) := by
      rw [fn10_write_c16]
      rw [if_neg h1]
    rw [e] <;> rfl
noncomputable def fn10_write_c13 (s : hs) (u0 : Int32) : Int32 × hs := (fn10_write_c16 (hu_thrown s u0))
def wp10_write_c13 (s : hs) (u0 : Int32) : Prop := (wp10_write_c16 (hu_thrown s u0))
set_option maxRecDepth 100000 in
set_option maxHeartbeats 4000000 in
theorem rc10_write_13 (s : hs) (u0 : Int32) (j1 : Option am_V) (j2 : Option am_V) (g1 : am_loO 22 j1 = true) (g2 : am_loO 22 j2 = true) (hp : wp10_write_c13 s u0) : am_lf (am_mk kb10_write 0 0 22) [13, 16, 30, 35, 40, 42, 191, 193, 225, 228, 244] (13, [some (.inr (.inl 0)), j1, j2], [.inl u0, .inr (.inl 0)], (hm_w s), 0, 0) = some (some (.inl ((fn10_write_c13 s u0).1)), (hm_w ((fn10_write_c13 s u0).2))) := by
  unfold wp10_write_c13 at hp
  have i16 := @rc10_write_16
  refine am_lf_eq ?_
  generalize am_lf (am_mk kb10_write 0 0 22) [13, 16, 30, 35, 40, 42, 191, 193, 225, 228, 244] = kt at i16 ⊢
  refine am_sp (w' := (hm_w (hu_thrown s u0))) (kp_R_0_thrown s u0) ?_
  have e : fn10_write_c13 s u0 = fn10_write_c16 (hu_thrown s u0) := by
    rw [fn10_write_c13]
  rw [e]
  exact i16 (hu_thrown s u0) _ _ g1 g2 hp
noncomputable def fn10_write (s : hs) : Int32 × hs := Classical.choose (⟨_, rfl⟩ : ∃ z : Int32 × hs, z = (if (hm_compiled s) = 0 then (fn10_write_c13 s (1 : Int32)) else (fn10_write_c13 s (0 : Int32))))
theorem fq10_write (s : hs) : fn10_write s = (if (hm_compiled s) = 0 then (fn10_write_c13 s (1 : Int32)) else (fn10_write_c13 s (0 : Int32))) := Classical.choose_spec (⟨_, rfl⟩ : ∃ z : Int32 × hs, z = (if (hm_compiled s) = 0 then (fn10_write_c13 s (1 : Int32)) else (fn10_write_c13 s (0 : Int32))))
def wp10_write (s : hs) : Prop := (((hm_compiled s) = 0 → (wp10_write_c13 s (1 : Int32))) ∧ (¬ (hm_compiled s) = 0 → (wp10_write_c13 s (0 : Int32))))
set_option maxRecDepth 100000 in
set_option maxHeartbeats 4000000 in
theorem re10_write (s : hs) (hp : wp10_write s) : am_lf (am_mk kb10_write 0 0 22) [13, 16, 30, 35, 40, 42, 191, 193, 225, 228, 244] (0, am_L0 [.inr (.inl 0)] 3, [], (hm_w s), 0, 0) = some (some (.inl ((fn10_write s).1)), (hm_w ((fn10_write s).2))) := by
  unfold wp10_write at hp
  have i13 := @rc10_write_13
  refine am_lf_eq ?_
  generalize am_lf (am_mk kb10_write 0 0 22) [13, 16, 30, 35, 40, 42, 191, 193, 225, 228, 244] = kt at i13 ⊢
  refine am_if (c := (hm_compiled s) = 0) (fun h1 => ?_) (fun h1 => ?_)
  · have q1 := hp.1 h1
    have e : fn10_write s = fn10_write_c13 s (1 : Int32) := by
      rw [fq10_write]
      rw [if_pos h1]
    rw [e]
    exact i13 s (1 : Int32) _ _ rfl rfl q1
  · have q1 := hp.2 h1
    have e : fn10_write s = fn10_write_c13 s (0 : Int32) := by
      rw [fq10_write]
      rw [if_neg h1]
    rw [e]
    exact i13 s (0 : Int32) _ _ rfl rfl q1
abbrev pr10_write : List am_V → List am_C → Prop := fun a w => ∃ (s : hs), a = [.inr (.inl 0)] ∧ w = (hm_w s) ∧ wp10_write s
noncomputable def fm10_write : am_M := fun a w => (fun (z : Int32 × hs) => (some (.inl (z.1)), (hm_w (z.2)), 0, 0)) (fn10_write (hm_st w 0))
theorem fe10_write (s : hs) : fm10_write [.inr (.inl 0)] (hm_w s) = (some (.inl ((fn10_write s).1)), (hm_w ((fn10_write s).2)), 0, 0) := rfl
set_option maxRecDepth 100000 in
set_option maxHeartbeats 4000000 in
theorem rn10_write : ∀ (a : List am_V) (w : List am_C), pr10_write a w → ∃ nq, am_ev (am_mk kb10_write (fm10_write a w).2.2.1 (fm10_write a w).2.2.2 w.length) [13, 16, 30, 35, 40, 42, 191, 193, 225, 228, 244] nq (0, am_L0 a 3, [], w, 0, 0) = some ((fm10_write a w).1, (fm10_write a w).2.1) := by
  rintro a w ⟨s, rfl, rfl, hp⟩
  rw [fe10_write s]
  exact am_lf_ev (re10_write s hp)
theorem rl10_write : ∀ (a : List am_V) (w : List am_C), pr10_write a w → a.length ≤ 3 := by
  rintro a w ⟨s, rfl, rfl, hp⟩
  exact Nat.le_of_ble_eq_true rfl
theorem pa10_write : ∀ a w, pr10_write a w → ∃ q a' ci fs r, a = .inr (.inl q) :: a' ∧ w[q]? = some (.inr (ci, fs)) ∧ hn_cl[ci]? = some r ∧ r.1 = hn_R10 := by
  rintro a w ⟨s, rfl, rfl, hp⟩
  exact ⟨0, _, 10, _, _, rfl, rfl, rfl, rfl⟩
set_option maxRecDepth 100000 in
set_option maxHeartbeats 4000000 in
theorem km10_write {l : Launch} {E : (Nat → Prop) → State → Prop} {D : va_G} {ou : Nat → Nat} {ca : Nat → ClassId} (hE : am_EC E) : hg_Met l E D ou ca hy10_write prog_12_method_73_code 3 (some .int) 5 pr10_write fm10_write := by
  refine am_met (B := kb10_write) (cuts := [13, 16, 30, 35, 40, 42, 191, 193, 225, 228, 244]) (nt := 5) (by decide +kernel) rfl rfl (hg_tys_ok ca) ?_ (by decide) rl10_write ?_ rn10_write
  · exact fun t ht => List.mem_cons_of_mem _ (hg_arr t ht)
  · intro a w hp ad p e R s m args below meth c hR X hEs hnm
    have hR1 : 5 ≤ R.frames ∧ 200 ≤ R.locals := by rw [hR]; exact ⟨Nat.le_refl _, Nat.le_refl _⟩
    refine ⟨kd10_write_ok, fun index ci fi mode hq => kf10_ok X.2.2.2.2.1 (index, ci, fi, mode) (am_as_mem hq), fun index ci fs hq => (am_no hq).elim, fun x v hq => (am_no hq).elim, ?_, fun o t n f hq => (am_no hq).elim, rfl, rfl, by rw [hR]; exact Nat.le_refl _, by rw [hR]; exact Nat.le_refl _⟩
    intro pc sel n0 pre0 f0 hq
    have hz : ∀ q ∈ ki10_write, am_CK p l e R s m args below meth c D hn_cl (va_A (am_w ad ou ca w) s.heap.size) ou ca 3 q.1 q.2.2.1 q.2.2.2.1 q.2.2.2.2 := by
      refine am_allc (am_ck_V (n := 1) X hEs hE (km10_put hE) (hg_good (gw_mem 1292 (by decide +kernel))) rfl (List.mem_cons_of_mem _ (gw_mem 76 (by decide +kernel))) (List.mem_cons_of_mem _ (gw_mem 1289 (by decide +kernel))) (List.mem_cons_of_mem _ (gw_mem 1291 (by decide +kernel))) (List.mem_cons_of_mem _ (gw_mem 49 (by decide +kernel))) pa10_put (by decide +kernel) ⟨Nat.le_trans (by decide) hR1.1, Nat.le_trans (by decide) hR1.2⟩ (kd10_write_ok (77, .invokevirtual 259, 3) (List.mem_of_getElem? (i := 45) rfl))) (am_allc (am_ck_V (n := 1) X hEs hE (km10_variable hE) (hg_good (gw_mem 1296 (by decide +kernel))) rfl (List.mem_cons_of_mem _ (gw_mem 76 (by decide +kernel))) (List.mem_cons_of_mem _ (gw_mem 1293 (by decide +kernel))) (List.mem_cons_of_mem _ (gw_mem 1295 (by decide +kernel))) (List.mem_cons_of_mem _ (gw_mem 50 (by decide +kernel))) pa10_variable (by decide +kernel) ⟨Nat.le_trans (by decide) hR1.1, Nat.le_trans (by decide) hR1.2⟩ (kd10_write_ok (103, .invokevirtual 303, 3) (List.mem_of_getElem? (i := 61) rfl))) (am_allc (am_ck_V (n := 1) X hEs hE (km10_firstItem hE) (hg_good (gw_mem 1300 (by decide +kernel))) rfl (List.mem_cons_of_mem _ (gw_mem 76 (by decide +kernel))) (List.mem_cons_of_mem _ (gw_mem 1297 (by decide +kernel))) (List.mem_cons_of_mem _ (gw_mem 1299 (by decide +kernel))) (List.mem_cons_of_mem _ (gw_mem 51 (by decide +kernel))) pa10_firstItem (by decide +kernel) ⟨Nat.le_trans (by decide) hR1.1, Nat.le_trans (by decide) hR1.2⟩ (kd10_write_ok (106, .invokevirtual 306, 3) (List.mem_of_getElem? (i := 62) rfl))) (am_allc (am_ck_V (n := 2) X hEs hE (km10_putItem hE) (hg_good (gw_mem 1304 (by decide +kernel))) rfl (List.mem_cons_of_mem _ (gw_mem 76 (by decide +kernel))) (List.mem_cons_of_mem _ (gw_mem 1301 (by decide +kernel))) (List.mem_cons_of_mem _ (gw_mem 1303 (by decide +kernel))) (List.mem_cons_of_mem _ (gw_mem 52 (by decide +kernel))) pa10_putItem (by decide +kernel) ⟨Nat.le_trans (by decide) hR1.1, Nat.le_trans (by decide) hR1.2⟩ (kd10_write_ok (109, .invokevirtual 312, 3) (List.mem_of_getElem? (i := 63) rfl))) (am_allc (am_ck_V (n := 1) X hEs hE (km10_choose hE) (hg_good (gw_mem 1358 (by decide +kernel))) rfl (List.mem_cons_of_mem _ (gw_mem 76 (by decide +kernel))) (List.mem_cons_of_mem _ (gw_mem 1355 (by decide +kernel))) (List.mem_cons_of_mem _ (gw_mem 1357 (by decide +kernel))) (List.mem_cons_of_mem _ (gw_mem 64 (by decide +kernel))) pa10_choose (by decide +kernel) ⟨Nat.le_trans (by decide) hR1.1, Nat.le_trans (by decide) hR1.2⟩ (kd10_write_ok (127, .invokevirtual 316, 3) (List.mem_of_getElem? (i := 73) rfl))) (am_allc (am_ck_V (n := 1) X hEs hE (km10_beginLoop hE) (hg_good (gw_mem 1362 (by decide +kernel))) rfl (List.mem_cons_of_mem _ (gw_mem 76 (by decide +kernel))) (List.mem_cons_of_mem _ (gw_mem 1359 (by decide +kernel))) (List.mem_cons_of_mem _ (gw_mem 1361 (by decide +kernel))) (List.mem_cons_of_mem _ (gw_mem 65 (by decide +kernel))) pa10_beginLoop (by decide +kernel) ⟨Nat.le_trans (by decide) hR1.1, Nat.le_trans (by decide) hR1.2⟩ (kd10_write_ok (146, .invokevirtual 319, 3) (List.mem_of_getElem? (i := 84) rfl))) (am_allc (am_ck_V (n := 1) X hEs hE (km10_close hE) (hg_good (gw_mem 1366 (by decide +kernel))) rfl (List.mem_cons_of_mem _ (gw_mem 76 (by decide +kernel))) (List.mem_cons_of_mem _ (gw_mem 1363 (by decide +kernel))) (List.mem_cons_of_mem _ (gw_mem 1365 (by decide +kernel))) (List.mem_cons_of_mem _ (gw_mem 66 (by decide +kernel))) pa10_close (by decide +kernel) ⟨Nat.le_trans (by decide) hR1.1, Nat.le_trans (by decide) hR1.2⟩ (kd10_write_ok (182, .invokevirtual 322, 3) (List.mem_of_getElem? (i := 106) rfl))) (am_all0)))))))
    exact hz _ (am_as_mem hq)
