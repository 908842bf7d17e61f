/-! writing, whole -/
noncomputable def wfin (s : hs) : Int32 × hs := if hm_full s = 0 then fn10_write_c225 s 0 else fn10_write_c225 s 2
theorem l_193 : ∀ (d i fu : Nat) (s : hs), i + d = 8 → d < fu → wp10_write_c193 fu s (Int32.ofNat i) ∧ fn10_write_c193 fu s (Int32.ofNat i) = wfin (hu_alone s (fill (hm_alone s) 0 i 8 (fun _ => -1))) := by
  intro d
  induction d with
  | zero =>
    intro i fu s hi hf
    obtain ⟨fu, rfl⟩ : ∃ f, fu = f + 1 := ⟨fu - 1, by omega⟩
    have he : i = 8 := by omega
    subst he
    have e : (8 : Int32) ≤ Int32.ofNat 8 := by decide
    have w : ∀ u, wp10_write_c225 s u := fun u => ⟨fun _ => trivial, fun _ => trivial⟩
    refine ⟨⟨fun _ => ⟨fun _ => w _, fun _ => w _⟩, fun q => absurd e q⟩, ?_⟩
    rw [fill_done]
    unfold fn10_write_c193 wfin
    rw [if_pos e]
    rfl
  | succ d ih =>
    intro i fu s hi hf
    obtain ⟨fu, rfl⟩ : ∃ f, fu = f + 1 := ⟨fu - 1, by omega⟩
    have e : ¬ (8 : Int32) ≤ Int32.ofNat i := fun q => by have := (q_le (a := 8) (by omega) (by omega)).mp q; omega
    obtain ⟨r1, r2⟩ := ih (i + 1) fu (hu_alone s (upd (hm_alone s) i (-1))) (by omega) (by omega)
    have c1 : (Int32.ofNat i).toNatClampNeg = i := q_cl (by omega)
    constructor
    · refine ⟨fun q => absurd q e, fun _ => ⟨q_inb (by omega) (by omega), ?_⟩⟩
      rw [c1, q_1]
      exact r1
    · conv => lhs; unfold fn10_write_c193
      rw [if_neg e, c1, q_1]
      refine r2.trans ?_
      have k1 := fill_step (hm_alone s) (b := 0) (i := i) (k := 8) (fun _ => (-1 : Int32)) (by omega)
      rw [Nat.zero_add] at k1
      have k2 : hm_alone (hu_alone s (upd (hm_alone s) i (-1))) = upd (hm_alone s) i (-1) := by simp only [hv_alone]
      rw [k2, k1]
      simp only [hu_alone]
def KV (s s' : hs) : Prop := ∃ th al de lo sa a b c, s' = hu_thrown (wrs s al de lo sa a b c) th
theorem m_write {u : qt6} {m : qt2} {x : qt5} {s : hs} (hm : Jm m s) (hz : Jz s) (hc : ¬ hm_compiled s = 0) (hI : FI x s) : wp8_fill u x m ∧ wp10_write s ∧ (fn8_fill u x m).2.2 = m ∧ ∃ s', KV s s' ∧ (∀ v, v < 8 → hm_alone s' v = -1) ∧ Ju (fn8_fill u x m).2.1 s' ∧ (((fn8_fill u x m).1 = 1 ∧ hm_thrown s' = 0 ∧ fn10_write s = (qg6_length (fn8_fill u x m).2.1, s')) ∨ ((fn8_fill u x m).1 = 0 ∧ hm_thrown s' = 2 ∧ fn10_write s = (0, s'))) := by
  obtain ⟨so, T, C, O, dep, st, L, n, hB, hS, h5⟩ := hI
  have hF := hS.fin
  have hn : n ≤ 240 := by have := hB.2.1; have := hB.2.2.1; omega
  have hcnt := hB.1.1
  obtain ⟨-, -, tx0, sp0⟩ := Tx.empty 1000 u (hm_out s)
  generalize hu0 : (fn6_empty 1000 u).2 = t0 at *
  have hs1 : hu_deep (hu_full (hu_size (hu_thrown s 0) 0) 0) 0 = hu_thrown (wrs s (hm_alone s) 0 (hm_loops s) (hm_saved s) (hm_out s) 0 0) 0 := by
    simp only [wrs, hu_thrown, hu_full, hu_size, hu_out, hu_saved, hu_loops, hu_deep, hu_alone, hm_alone, hm_loops, hm_saved, hm_out]
  generalize hs1' : hu_deep (hu_full (hu_size (hu_thrown s 0) 0) 0) 0 = s1 at *
  have f1 : hm_deep s1 = 0 ∧ hm_size s1 = 0 ∧ hm_full s1 = 0 ∧ hm_out s1 = hm_out s ∧ hm_alone s1 = hm_alone s ∧ hm_counts s1 = hm_counts s ∧ hm_lengths s1 = hm_lengths s ∧ hm_items s1 = hm_items s := by
    rw [hs1]
    simp only [hv_thrown, hv_wrs, and_self]
  obtain ⟨f2, f3, f4, f5, f6, f7, f8, f9⟩ := f1
  have hB1 : BA x s1 so T C O L n n := by
    obtain ⟨a1, a2, a3, a4, a5, a6, a7, a8, a9, a10, a11⟩ := hB
    rw [hs1]
    refine ⟨a1.cong ⟨rfl, rfl, rfl, rfl, rfl, rfl⟩ ?_, a2, a3, a4, a5, ?_, ?_, a8, ?_, ?_, ?_⟩
    · unfold KS
      simp only [hv_thrown, hv_wrs, and_self]
    · simp only [hv_thrown, hv_wrs]; exact a6
    · simp only [hv_thrown, hv_wrs]; exact a7
    · simp only [hv_thrown, hv_wrs]; exact a9
    · simp only [hv_thrown, hv_wrs]; exact a10
    · simp only [hv_thrown, hv_wrs]; exact a11
  have hW1 : WI m s1 := by
    unfold WI Jz
    rw [f6, f7, f8, f9]
    refine ⟨fun v hv => ?_, hm.2.1, hz⟩
    obtain ⟨k, k1, k2, k3⟩ := hm.1 v hv
    exact ⟨k, k1, k2, k3, Or.inl (hm.2.2 v hv)⟩
  have hO1 : Wo t0 s1 := by
    refine ⟨0, by omega, f3, ?_, Or.inl ⟨sp0, f4⟩⟩
    rw [f5]
    exact tx0
  have hR : RG so C O dep 0 n 0 := ⟨fun j _ h2 h3 => ⟨(hF.1 j h2 h3).2.2.2.1, Nat.zero_le _⟩, fun j _ _ _ => Nat.zero_le _⟩
  obtain ⟨z1, t', s', b', z2, z3, z4, z5, ⟨N', z6, z6'⟩, z7⟩ := sim_span (x := x) (L := L) hF h5 9 0 (by omega) (by omega) 0 n 0 t0 m s1 hR (by omega) (by omega) (by omega) hB1 hW1 hO1 f2
  have hN : N' + 1 ≤ 1000000 := by
    have : (n - 0) * 4 ^ (6 - 0) ≤ 240 * 4096 := Nat.mul_le_mul (by omega) (by decide)
    omega
  obtain ⟨fu, hfu⟩ : ∃ fu, hg_fw = (fu + 1) + N' := ⟨hg_fw - 1 - N', by rw [hg_fw_eq]; omega⟩
  obtain ⟨y1, y2⟩ := z6' (fu + 1)
  obtain ⟨x1, x2⟩ := ws_full (hB1.kw z4) z5 (by
    by_cases hf : hm_full s' = 0
    · exact Or.inr (z7 hf).1
    · exact Or.inl hf) fu
  obtain ⟨v1, v2⟩ := l_193 8 0 hg_fw s' (by omega) (by rw [hg_fw_eq]; omega)
  have W42 : wp10_write_c42 hg_fw s1 (Int32.ofNat 0) := by rw [hfu]; exact y2 (x2 v1)
  have E42 : fn10_write_c42 hg_fw s1 (Int32.ofNat 0) = wfin (hu_alone s' (fill (hm_alone s') 0 0 8 (fun _ => -1))) := by rw [hfu, y1, x1]; exact v2
  have t00 : hm_thrown (hu_thrown s 0) ≤ 0 := by show (0 : Int32) ≤ 0; decide
  have WW : wp10_write s := by
    refine ⟨fun q => absurd q hc, fun _ => ⟨fun _ => ?_, fun q => absurd t00 q⟩⟩
    show wp10_write_c42 hg_fw (hu_deep (hu_full (hu_size (hu_thrown s 0) 0) 0) 0) (Int32.ofNat 0)
    rw [hs1']
    exact W42
  have EW : fn10_write s = wfin (hu_alone s' (fill (hm_alone s') 0 0 8 (fun _ => -1))) := by
    rw [fq10_write, if_neg hc, fn10_write_c13, fn10_write_c16, if_pos t00, fn10_write_c30, fn10_write_c35, fn10_write_c40, hs1']
    exact E42
  have S : (fk8_span 9).1 t0 x m 0 (Int32.ofNat n) 0 = (t', m) := z2
  have SW : (fk8_span 9).2 t0 x m 0 (Int32.ofNat n) 0 := z1
  have WF : wp8_fill u x m := by
    unfold wp8_fill
    rw [hu0, hcnt]
    exact ⟨trivial, SW, fun _ => trivial, fun _ => trivial⟩
  have hal : ∀ v, v < 8 → fill (hm_alone s') 0 0 8 (fun _ => (-1 : Int32)) v = -1 := fun v hv => by
    have := fill_in (g := hm_alone s') (b := 0) (i := 0) (k := 8) (j := v) (r := fun _ => (-1 : Int32)) (by omega) hv
    rwa [Nat.zero_add] at this
  generalize fill (hm_alone s') 0 0 8 (fun _ => (-1 : Int32)) = al at *
  have hKV : ∀ th sz, KV s (hu_size (hu_thrown (hu_alone s' al) th) sz) := fun th sz => by
    obtain ⟨q1, q2, q3, q4, q5, q6, q7, rfl⟩ := z4
    rw [hs1]
    refine ⟨th, al, q2, q3, q4, q5, sz, q7, ?_⟩
    simp only [wrs, hu_thrown, hu_full, hu_size, hu_out, hu_saved, hu_loops, hu_deep, hu_alone]
  have hfl : hm_full (hu_alone s' al) = hm_full s' := by simp only [hv_alone]
  by_cases hf : hm_full s' = 0
  · have hsp : qg6_spilled t' = 0 := z3.fl.1.mpr hf
    have EF : fn8_fill u x m = (1, t', m) := by
      rw [fq8_fill, hu0, hcnt, S]
      show (if qg6_spilled t' = 0 then _ else _) = _
      rw [if_pos hsp]
    have EV : wfin (hu_alone s' al) = (hm_size s', hu_size (hu_thrown (hu_alone s' al) 0) (hm_size s')) := by
      unfold wfin fn10_write_c225 fn10_write_c228 fn10_write_c244
      simp only [hv_alone, hv_thrown, hv_size, hf, if_true]
    rw [EF]
    obtain ⟨k, k1, k2, k3, k4⟩ := z3
    refine ⟨WF, WW, rfl, hu_size (hu_thrown (hu_alone s' al) 0) (hm_size s'), hKV _ _, ?_, ⟨k, k1, ?_, ?_⟩, Or.inl ⟨rfl, ?_, ?_⟩⟩
    · simp only [hv_size, hv_thrown, hv_alone]; exact hal
    · simp only [hv_size]; exact k2
    · simp only [hv_size, hv_thrown, hv_alone]; exact k3
    · simp only [hv_size, hv_thrown]
    · rw [EW, EV, k3.1, k2]
  · have hsp : ¬ qg6_spilled t' = 0 := fun q => hf (z3.fl.1.mp q)
    have EF : fn8_fill u x m = (0, (fn6_empty 1000 t').2, m) := by
      rw [fq8_fill, hu0, hcnt, S]
      show (if qg6_spilled t' = 0 then _ else _) = _
      rw [if_neg hsp]
    have EV : wfin (hu_alone s' al) = (0, hu_size (hu_thrown (hu_alone s' al) 2) 0) := by
      unfold wfin fn10_write_c225 fn10_write_c228 fn10_write_c244
      simp only [hv_alone, hv_thrown, hv_size, hf, if_false]
    rw [EF]
    obtain ⟨-, -, k3, -⟩ := Tx.empty 1000 t' (hm_out s')
    refine ⟨WF, WW, rfl, hu_size (hu_thrown (hu_alone s' al) 2) 0, hKV _ _, ?_, ⟨0, by omega, ?_, ?_⟩, Or.inr ⟨rfl, ?_, ?_⟩⟩
    · simp only [hv_size, hv_thrown, hv_alone]; exact hal
    · simp only [hv_size]; rfl
    · simp only [hv_size, hv_thrown, hv_alone]; exact k3
    · simp only [hv_size, hv_thrown]
    · rw [EW, EV]
