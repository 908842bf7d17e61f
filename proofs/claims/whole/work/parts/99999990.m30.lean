/-! writing: loops -/
theorem upd_id (f : Nat → Int32) (v : Nat) : upd f v (f v) = f := by
  funext j
  by_cases h : j = v
  · rw [h, upd_at]
  · rw [upd_ne h]
theorem upd_2 (f : Nat → Int32) (v : Nat) (y z : Int32) : upd (upd f v y) v z = upd f v z := by
  funext j
  by_cases h : j = v
  · rw [h, upd_at, upd_at]
  · rw [upd_ne h, upd_ne h, upd_ne h]
theorem al_id (m : qt2) (v : Nat) : qa2_alone m v (qg2_alone m v) = m := by
  unfold qa2_alone
  rw [upd_id]
  rfl
theorem al_2 (m : qt2) (v : Nat) (y z : Int32) : qa2_alone (qa2_alone m v y) v z = qa2_alone m v z := by
  unfold qa2_alone
  simp only [qv2_alone]
  rw [upd_2]
  rfl
theorem Wo.cong {t : qt6} {s s' : hs} (h : Wo t s) (h1 : hm_size s' = hm_size s) (h2 : hm_out s' = hm_out s) (h3 : hm_full s' = hm_full s) : Wo t s' := by
  unfold Wo at h ⊢
  rw [h1, h2, h3]
  exact h
theorem l_loopF {x : qt5} {d p c v en : Nat} {K : KT} {KP : KPT} {t : qt6} {m : qt2} (hKZ : KZ x K KP (d + 1)) (hsp : ¬ qg6_spilled t = 0) (hv : v < 8) (hp : p ≤ 240) (hc : c ≤ 240) (hen : en ≤ 1000) (ec : fn5_close x (Int32.ofNat p) = Int32.ofNat c) (wc : wp5_close x (Int32.ofNat p)) : ∀ (r cur fu : Nat) (mm : qt2), cur + r = en → r < fu → (∀ z, qa2_alone mm v z = qa2_alone m v z) → wp8_loop_c31 fu K KP t x mm (Int32.ofNat p) (Int32.ofNat d) (Int32.ofNat v) (qg2_alone m v) (Int32.ofNat en) (Int32.ofNat cur) ∧ fn8_loop_c31 fu K KP t x mm (Int32.ofNat p) (Int32.ofNat d) (Int32.ofNat v) (qg2_alone m v) (Int32.ofNat en) (Int32.ofNat cur) = (t, m) := by
  intro r
  induction r with
  | zero =>
    intro cur fu mm hr hf hm
    obtain ⟨fu, rfl⟩ : ∃ f, fu = f + 1 := ⟨fu - 1, by omega⟩
    have e : Int32.ofNat en ≤ Int32.ofNat cur := (q_le (by omega) (by omega)).mpr (by omega)
    refine ⟨⟨fun _ => (w_from mm hv).2.2.2.2 _, fun q => absurd e q⟩, ?_⟩
    unfold fn8_loop_c31
    rw [if_pos e, leave mm hv, hm, al_id]
  | succ r ih =>
    intro cur fu mm hr hf hm
    obtain ⟨fu, rfl⟩ : ∃ f, fu = f + 1 := ⟨fu - 1, by omega⟩
    have e : ¬ Int32.ofNat en ≤ Int32.ofNat cur := by rw [q_le (by omega) (by omega)]; omega
    have el : fn2_leaveAlone mm (Int32.ofNat v) (Int32.ofNat cur) = qa2_alone m v (Int32.ofNat cur) := by rw [leave mm hv, hm]
    obtain ⟨z1, z2⟩ := hKZ (p + 1) c t (qa2_alone m v (Int32.ofNat cur)) (by omega) (by omega) (Or.inr hsp)
    obtain ⟨r1, r2⟩ := ih (cur + 1) fu (qa2_alone m v (Int32.ofNat cur)) (by omega) (by omega) (fun z => al_2 m v _ z)
    constructor
    · refine ⟨fun q => absurd q e, fun _ => ⟨(w_from mm hv).2.2.2.2 _, wc, ?_⟩⟩
      rw [el, ec, q_1, q_1, q_1, z2]
      exact ⟨z1, r1⟩
    · conv => lhs; unfold fn8_loop_c31
      rw [if_neg e, el, ec, q_1, q_1, q_1, z2]
      exact r2
theorem cls3 {x : qt5} {s : hs} {so T C O dep : Nat → Nat} {L n p : Nat} (hF : SF so T C O dep n) (h : BA x s so T C O L n n) (hp : p < n) (h3 : so p = 3) {v k e cur : Nat} (hv : v < 8) (ev : fn10_variable s (Int32.ofNat p) = Int32.ofNat v) (wv : wp10_variable s (Int32.ofNat p)) (hk' : k ≤ 4) (hk1 : 1 ≤ k) (hcnt : hm_counts s v = Int32.ofNat k) (hde : hm_deep s = Int32.ofNat (e + 1)) (he : e ≤ 5) (hal : hm_alone s v = Int32.ofNat cur) (hcur : cur < 40) : wp10_close s (Int32.ofNat (C p)) ∧ fn10_close s (Int32.ofNat (C p)) = if 0 ≤ hm_saved s e ∨ 4 * v + k ≤ cur + 1 then (Int32.ofNat (C p + 1), hu_alone (hu_deep s (Int32.ofNat e)) (upd (hm_alone s) v (hm_saved s e))) else (Int32.ofNat (p + 1), hu_alone s (upd (hm_alone s) v (Int32.ofNat (cur + 1)))) := by
  obtain ⟨b1, b2, b3, b4, b5, b6, -⟩ := hF.1 p hp (Or.inr h3)
  have hn : n ≤ 240 := by have := h.2.1; have := h.2.2.1; omega
  have eo : hm_opener s (Int32.ofNat (C p)).toNatClampNeg = Int32.ofNat p := by
    rw [q_cl (by omega), h.2.2.2.2.2.2.2.2.2.1 (C p) b4 (Or.inr b5), b6]
  have es : ¬ hm_sort s (Int32.ofNat p).toNatClampNeg = 2 := by
    rw [(w_sort h hp).2.1, h3]
    decide
  have cv : (Int32.ofNat v).toNatClampNeg = v := q_cl (by omega)
  have ed : hm_deep s - 1 = Int32.ofNat e := by rw [hde]; exact q_sub (a := e + 1) (b := 1) (by omega)
  have ce : (Int32.ofNat e).toNatClampNeg = e := q_cl (by omega)
  have hin8 : am_inb (Int32.ofNat v) 8 = true := q_inb hv (by omega)
  have hin6 : am_inb (Int32.ofNat e) 6 = true := q_inb (by omega) (by omega)
  have last : 4 * Int32.ofNat v + Int32.ofNat k - 1 = Int32.ofNat (4 * v + k - 1) := by
    rw [show (4 : Int32) = Int32.ofNat 4 from rfl, q_mul, q_add]
    exact q_sub (b := 1) (by omega)
  have hl : Int32.ofNat (4 * v + k - 1) ≤ Int32.ofNat cur ↔ 4 * v + k ≤ cur + 1 := by
    rw [q_le (by omega) (by omega)]
    omega
  constructor
  · unfold wp10_close
    simp only [eo, ev, ed, cv, hv_deep, hin6, hin8, true_and, and_true, implies_true, and_self]
    exact ⟨q_inb (by omega) (by omega), q_inb (by omega) (by omega), fun _ => wv⟩
  · rw [fq10_close]
    simp only [eo, ev, ed, cv, ce, ha_alone, hv_deep, hcnt, last, hal, q_1]
    rw [if_neg es]
    by_cases h0 : 0 ≤ hm_saved s e
    · rw [if_pos h0, if_pos (Or.inl h0)]
    · rw [if_neg h0]
      by_cases h1 : 4 * v + k ≤ cur + 1
      · rw [if_pos (hl.mpr h1), if_pos (Or.inr h1)]
      · rw [if_neg (fun w => h1 (hl.mp w)), if_neg (fun w => by rcases w with w | w; exact h0 w; exact h1 w)]
theorem bgl {x : qt5} {s : hs} {so T C O dep : Nat → Nat} {L n p : Nat} (hF : SF so T C O dep n) (h : BA x s so T C O L n n) (hp : p < n) (h3 : so p = 3) {v e : Nat} (hv : v < 8) (ev : fn10_variable s (Int32.ofNat p) = Int32.ofNat v) (wv : wp10_variable s (Int32.ofNat p)) (wf : wp10_firstItem s (Int32.ofNat v)) (hde : hm_deep s = Int32.ofNat e) (he : e ≤ 5) {z : Int32} (ef : fn10_firstItem s (Int32.ofNat v) = z) : wp10_beginLoop s (Int32.ofNat p) ∧ fn10_beginLoop s (Int32.ofNat p) = if 0 ≤ z then (Int32.ofNat (p + 1), hu_alone (hu_deep (hu_saved (hu_loops s (upd (hm_loops s) e (Int32.ofNat p))) (upd (hm_saved s) e (hm_alone s v))) (Int32.ofNat (e + 1))) (upd (hm_alone s) v z)) else (Int32.ofNat (C p + 1), s) := by
  obtain ⟨b1, b2, b3, b4, b5, b6, -⟩ := hF.1 p hp (Or.inr h3)
  have hn : n ≤ 240 := by have := h.2.1; have := h.2.2.1; omega
  have cv : (Int32.ofNat v).toNatClampNeg = v := q_cl (by omega)
  have cp : (Int32.ofNat p).toNatClampNeg = p := q_cl (by omega)
  have ce : (Int32.ofNat e).toNatClampNeg = e := q_cl (by omega)
  have hin8 : am_inb (Int32.ofNat v) 8 = true := q_inb hv (by omega)
  have hin6 : am_inb (Int32.ofNat e) 6 = true := q_inb (by omega) (by omega)
  have hin : am_inb (Int32.ofNat p) 240 = true := q_inb (by omega) (by omega)
  have o2 := (h.2.2.2.2.2.2.2.2.1 p hp (Or.inr h3)).2 (by omega)
  constructor
  · unfold wp10_beginLoop wp10_beginLoop_c35 wp10_beginLoop_c50 wp10_beginLoop_c60
    simp only [ev, ha_loops, ha_saved, hv_loops, hv_saved, hde, hin8, hin6, hin, true_and, and_true, implies_true, and_self]
    exact ⟨wv, wf⟩
  · rw [fq10_beginLoop, ev, ef, cp, o2, q_1]
    unfold fn10_beginLoop_c35 fn10_beginLoop_c50 fn10_beginLoop_c60
    simp only [ha_loops, ha_saved, ha_alone, hv_loops, hv_saved, hv_deep, hde, ce, cv, q_1]
theorem l_loop {x : qt5} {s0 : hs} {so T C O dep : Nat → Nat} {L n d p e v k c0 en : Nat} {K : KT} {KP : KPT} {m : qt2} {al : Nat → Int32} (hF : SF so T C O dep n) (hSim : Sim x so T C O dep L n K KP (d + 1)) (hKZ : KZ x K KP (d + 1)) (hrb : RG so C O dep (p + 1) (C p) (d + 1)) (hp : p < n) (h3 : so p = 3) (hd : d ≤ 5) (he : e ≤ d) (hB : BA x s0 so T C O L n n) (hv : v < 8) (ev : ∀ s, KW s0 s → fn10_variable s (Int32.ofNat p) = Int32.ofNat v ∧ wp10_variable s (Int32.ofNat p)) (hk4 : k ≤ 4) (hcnt : hm_counts s0 v = Int32.ofNat k) (hen : en ≤ 4 * v + k) (hc0 : 4 * v ≤ c0) (hal : (al v = -1 ∧ en = 4 * v + k) ∨ (al v = Int32.ofNat c0 ∧ en = c0 + 1)) (hWI : ∀ s cur, KW s0 s → c0 ≤ cur → cur < en → hm_alone s = upd al v (Int32.ofNat cur) → WI (qa2_alone m v (Int32.ofNat cur)) s) : ∀ (r cur fu : Nat) (t : qt6) (mm : qt2) (s : hs), cur + r + 1 = en → c0 ≤ cur → r + 1 < fu → (∀ z, qa2_alone mm v z = qa2_alone m v z) → KW s0 s → hm_alone s = upd al v (Int32.ofNat cur) → hm_deep s = Int32.ofNat (e + 1) → hm_saved s e = al v → Wo t s → wp8_loop_c31 fu K KP t x mm (Int32.ofNat p) (Int32.ofNat d) (Int32.ofNat v) (qg2_alone m v) (Int32.ofNat en) (Int32.ofNat cur) ∧ ∃ t' s' b', fn8_loop_c31 fu K KP t x mm (Int32.ofNat p) (Int32.ofNat d) (Int32.ofNat v) (qg2_alone m v) (Int32.ofNat en) (Int32.ofNat cur) = (t', m) ∧ Wo t' s' ∧ KW s s' ∧ b' ≤ n ∧ RN s (p + 1) s' b' ((r + 1) * ((C p - (p + 1)) * 4 ^ (6 - (d + 1)) + 1)) ∧ (hm_full s' = 0 → b' = C p + 1 ∧ hm_alone s' = al ∧ hm_deep s' = Int32.ofNat e ∧ ∀ j, j < e → hm_saved s' j = hm_saved s j) := by
  have hn : n ≤ 240 := by have := hB.2.1; have := hB.2.2.1; omega
  obtain ⟨b1, b2, b3, b4, b5, b6, -⟩ := hF.1 p hp (Or.inr h3)
  obtain ⟨ec, -, wc, -⟩ := hB.cl hp
  generalize hN : (C p - (p + 1)) * 4 ^ (6 - (d + 1)) = Nb
  intro r
  induction r with
  | zero =>
    intro cur fu t mm s hr hcc hf hm hK ha hdp hsv hO
    obtain ⟨fu, rfl⟩ : ∃ f, fu = f + 1 := ⟨fu - 1, by omega⟩
    obtain ⟨fu, rfl⟩ : ∃ f, fu = f + 1 := ⟨fu - 1, by omega⟩
    have e0 : ¬ Int32.ofNat en ≤ Int32.ofNat cur := by rw [q_le (by omega) (by omega)]; omega
    have e1 : Int32.ofNat en ≤ Int32.ofNat (cur + 1) := (q_le (by omega) (by omega)).mpr (by omega)
    have el : fn2_leaveAlone mm (Int32.ofNat v) (Int32.ofNat cur) = qa2_alone m v (Int32.ofNat cur) := by rw [leave mm hv, hm]
    obtain ⟨z1, t1, s1, b1', z2, z3, z4, z5, z6, z7⟩ := hSim (p + 1) (C p) (e + 1) t (qa2_alone m v (Int32.ofNat cur)) s hrb (by omega) (by omega) (by omega) (hB.kw hK) (hWI s cur hK hcc (by omega) ha) hO hdp
    rw [hN] at z6
    have F : fn8_loop_c31 (fu + 1 + 1) K KP t x mm (Int32.ofNat p) (Int32.ofNat d) (Int32.ofNat v) (qg2_alone m v) (Int32.ofNat en) (Int32.ofNat cur) = (t1, m) := by
      conv => lhs; unfold fn8_loop_c31
      rw [if_neg e0, el, ec, q_1, q_1, q_1, z2]
      unfold fn8_loop_c31
      rw [if_pos e1, leave _ hv, al_2, al_id]
    constructor
    · refine ⟨fun q => absurd q e0, fun _ => ⟨(w_from mm hv).2.2.2.2 _, wc, ?_⟩⟩
      rw [el, ec, q_1, q_1, q_1, z2]
      exact ⟨z1, ⟨fun _ => (w_from _ hv).2.2.2.2 _, fun q => absurd e1 q⟩⟩
    · by_cases hf1 : hm_full s1 = 0
      · obtain ⟨rfl, y1, y2, y3⟩ := z7 hf1
        have hK1 := hK.trans z4
        obtain ⟨v1, v2⟩ := ev s1 hK1
        have hcnt1 : hm_counts s1 v = Int32.ofNat k := by
          obtain ⟨q1, q2, q3, q4, q5, q6, q7, rfl⟩ := hK1
          simp only [hv_wrs]
          exact hcnt
        obtain ⟨w1, e2⟩ := cls3 (e := e) (cur := cur) hF (hB.kw hK1) hp h3 hv v1 v2 hk4 (by omega) hcnt1 (y2.trans hdp) (by omega) (by rw [y1, ha, upd_at]) (by omega)
        have hsv1 : hm_saved s1 e = al v := (y3 e (by omega)).trans hsv
        have hlast : 0 ≤ hm_saved s1 e ∨ 4 * v + k ≤ cur + 1 := by
          rw [hsv1]
          rcases hal with ⟨q1, q2⟩ | ⟨q1, q2⟩
          · right; omega
          · left; rw [q1]; exact Int32.not_lt.mp (q_pos (by omega))
        rw [if_pos hlast, hsv1, y1, ha, upd_2, upd_id] at e2
        have R := ws5 (hB.kw hK1) b4 hf1 b5 w1 e2
        refine ⟨t1, hu_alone (hu_deep s1 (Int32.ofNat e)) al, C p + 1, F, ?_, z4.trans ((KW.deep _ _).trans (KW.alone _ _)), by omega, z6.trans R (by omega), fun _ => ⟨rfl, ?_, ?_, ?_⟩⟩
        · refine z3.cong ?_ ?_ ?_
          · simp only [hv_alone, hv_deep]
          · simp only [hv_alone, hv_deep]
          · simp only [hv_alone, hv_deep]
        · simp only [hv_alone]
        · simp only [hv_alone, hv_deep]
        · simp only [hv_alone, hv_deep]
          intro j hj
          exact y3 j (by omega)
      · exact ⟨t1, s1, b1', F, z3, z4, z5, z6.mono (by omega), fun w => absurd w hf1⟩
  | succ r ih =>
    intro cur fu t mm s hr hcc hf hm hK ha hdp hsv hO
    obtain ⟨fu, rfl⟩ : ∃ f, fu = f + 1 := ⟨fu - 1, by omega⟩
    have e0 : ¬ Int32.ofNat en ≤ Int32.ofNat cur := by rw [q_le (by omega) (by omega)]; omega
    have el : fn2_leaveAlone mm (Int32.ofNat v) (Int32.ofNat cur) = qa2_alone m v (Int32.ofNat cur) := by rw [leave mm hv, hm]
    obtain ⟨z1, t1, s1, b1', z2, z3, z4, z5, z6, z7⟩ := hSim (p + 1) (C p) (e + 1) t (qa2_alone m v (Int32.ofNat cur)) s hrb (by omega) (by omega) (by omega) (hB.kw hK) (hWI s cur hK hcc (by omega) ha) hO hdp
    rw [hN] at z6
    have F : fn8_loop_c31 (fu + 1) K KP t x mm (Int32.ofNat p) (Int32.ofNat d) (Int32.ofNat v) (qg2_alone m v) (Int32.ofNat en) (Int32.ofNat cur) = fn8_loop_c31 fu K KP t1 x (qa2_alone m v (Int32.ofNat cur)) (Int32.ofNat p) (Int32.ofNat d) (Int32.ofNat v) (qg2_alone m v) (Int32.ofNat en) (Int32.ofNat (cur + 1)) := by
      conv => lhs; unfold fn8_loop_c31
      rw [if_neg e0, el, ec, q_1, q_1, q_1, z2]
    have W : wp8_loop_c31 fu K KP t1 x (qa2_alone m v (Int32.ofNat cur)) (Int32.ofNat p) (Int32.ofNat d) (Int32.ofNat v) (qg2_alone m v) (Int32.ofNat en) (Int32.ofNat (cur + 1)) → wp8_loop_c31 (fu + 1) K KP t x mm (Int32.ofNat p) (Int32.ofNat d) (Int32.ofNat v) (qg2_alone m v) (Int32.ofNat en) (Int32.ofNat cur) := fun w => by
      refine ⟨fun q => absurd q e0, fun _ => ⟨(w_from mm hv).2.2.2.2 _, wc, ?_⟩⟩
      rw [el, ec, q_1, q_1, q_1, z2]
      exact ⟨z1, w⟩
    have har : Nb + 1 + (r + 1) * (Nb + 1) ≤ (r + 1 + 1) * (Nb + 1) := by
      rw [Nat.succ_mul (r + 1)]
      omega
    by_cases hf1 : hm_full s1 = 0
    · obtain ⟨rfl, y1, y2, y3⟩ := z7 hf1
      have hK1 := hK.trans z4
      obtain ⟨v1, v2⟩ := ev s1 hK1
      have hcnt1 : hm_counts s1 v = Int32.ofNat k := by
        obtain ⟨q1, q2, q3, q4, q5, q6, q7, rfl⟩ := hK1
        simp only [hv_wrs]
        exact hcnt
      obtain ⟨w1, e2⟩ := cls3 (e := e) (cur := cur) hF (hB.kw hK1) hp h3 hv v1 v2 hk4 (by omega) hcnt1 (y2.trans hdp) (by omega) (by rw [y1, ha, upd_at]) (by omega)
      have hsv1 : hm_saved s1 e = al v := (y3 e (by omega)).trans hsv
      have hlast : ¬ (0 ≤ hm_saved s1 e ∨ 4 * v + k ≤ cur + 1) := by
        rw [hsv1]
        rcases hal with ⟨q1, q2⟩ | ⟨q1, q2⟩
        · rw [q1]
          intro w
          rcases w with w | w
          · exact absurd w (by decide)
          · omega
        · omega
      rw [if_neg hlast, y1, ha, upd_2] at e2
      have R := ws5 (hB.kw hK1) b4 hf1 b5 w1 e2
      have k1 : hm_alone (hu_alone s1 (upd al v (Int32.ofNat (cur + 1)))) = upd al v (Int32.ofNat (cur + 1)) := by simp only [hv_alone]
      have k2 : hm_deep (hu_alone s1 (upd al v (Int32.ofNat (cur + 1)))) = Int32.ofNat (e + 1) := by simp only [hv_alone]; exact y2.trans hdp
      have k3 : hm_saved (hu_alone s1 (upd al v (Int32.ofNat (cur + 1)))) = hm_saved s1 := by simp only [hv_alone]
      have k4 : Wo t1 (hu_alone s1 (upd al v (Int32.ofNat (cur + 1)))) := by
        refine z3.cong ?_ ?_ ?_
        · simp only [hv_alone]
        · simp only [hv_alone]
        · simp only [hv_alone]
      obtain ⟨u1, t2, s2, b2', u2, u3, u4, u5, u6, u7⟩ := ih (cur + 1) fu t1 (qa2_alone m v (Int32.ofNat cur)) (hu_alone s1 (upd al v (Int32.ofNat (cur + 1)))) (by omega) (by omega) (by omega) (fun z => al_2 m v _ z) (hK1.trans (KW.alone _ _)) k1 k2 (by rw [k3]; exact hsv1) k4
      refine ⟨W u1, t2, s2, b2', F.trans u2, u3, z4.trans ((KW.alone _ _).trans u4), u5, (z6.trans R (Nat.le_refl _)).trans u6 har, fun w => ?_⟩
      obtain ⟨x1, x2, x3, x4⟩ := u7 w
      refine ⟨x1, x2, x3, fun j hj => ?_⟩
      rw [x4 j hj, k3]
      exact y3 j (by omega)
    · have hsp : ¬ qg6_spilled t1 = 0 := fun w => hf1 (z3.fl.1.mp w)
      obtain ⟨u1, u2⟩ := l_loopF (m := m) (v := v) (en := en) hKZ hsp hv (by omega) (by omega) (by omega) ec wc (r + 1) (cur + 1) fu (qa2_alone m v (Int32.ofNat cur)) (by omega) (by omega) (fun z => al_2 m v _ z)
      exact ⟨W u1, t1, s1, b1', F.trans u2, z3, z4, z5, z6.mono (by omega), fun w => absurd w hf1⟩
