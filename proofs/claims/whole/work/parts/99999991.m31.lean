/-! writing: a loop whole, a span -/
theorem op_loop {x : qt5} {s : hs} {so T C O dep : Nat → Nat} {L n d p b e : Nat} {K : KT} {KP : KPT} {t : qt6} {m : qt2} (hF : SF so T C O dep n) (hSim : Sim x so T C O dep L n K KP (d + 1)) (hKZ : KZ x K KP (d + 1)) (hr : RG so C O dep p b d) (hpb : p < b) (hb : b ≤ n) (h3 : so p = 3) (he : e ≤ d) (hB : BA x s so T C O L n n) (hW : WI m s) (hO : Wo t s) (hdp : hm_deep s = Int32.ofNat e) (hf : hm_full s = 0) : wp8_loop K KP t x m (Int32.ofNat p) (Int32.ofNat d) ∧ Ot n m s p (C p + 1) e ((C p + 1 - p) * 4 ^ (6 - d)) (fn8_loop K KP t x m (Int32.ofNat p) (Int32.ofNat d)) := by
  have hp : p < n := by omega
  have hn : n ≤ 240 := by have := hB.2.1; have := hB.2.2.1; omega
  obtain ⟨b1, b2, b3, b4, b5, b6, b7, -⟩ := hF.1 p hp (Or.inr h3)
  have hd : d ≤ 5 := by have := (hr.1 p (by omega) hpb (Or.inr h3)).2; omega
  obtain ⟨v, hv, ev, ev10, wv, wv10⟩ := hB.vr hp (by omega) (by omega)
  obtain ⟨c, en, g1, g2, g3, g4, g5, g6, g7, g8, g9, g10, g11, k, g12, g13, g14, g15, g16⟩ := hW.rng hv
  obtain ⟨w1, w2, w3, w4, w5⟩ := w_from m hv
  obtain ⟨wb, eb⟩ := bgl hF hB hp h3 hv ev10 wv10 g8 hdp (by omega) g9
  have hfu : hg_fu = 999 + 1 := hg_fu_eq
  suffices hh : wp8_loop_c31 hg_fu K KP t x m (Int32.ofNat p) (Int32.ofNat d) (Int32.ofNat v) (qg2_alone m v) (Int32.ofNat en) (Int32.ofNat c) ∧ Ot n m s p (C p + 1) e ((C p + 1 - p) * 4 ^ (6 - d)) (fn8_loop_c31 hg_fu K KP t x m (Int32.ofNat p) (Int32.ofNat d) (Int32.ofNat v) (qg2_alone m v) (Int32.ofNat en) (Int32.ofNat c)) by
    constructor
    · unfold wp8_loop
      rw [ev, g4, g5, g6]
      exact ⟨wv, w3, w2, w1, hh.1⟩
    · rw [fq8_loop, ev, g4, g5, g6]
      exact hh.2
  by_cases hce : c < en
  · rw [if_pos hce, if_pos (Int32.not_lt.mp (q_pos (by omega)))] at eb
    have R1 := ws3 hB hp hf h3 wb eb
    have evs : ∀ s', KW s s' → fn10_variable s' (Int32.ofNat p) = Int32.ofNat v ∧ wp10_variable s' (Int32.ofNat p) := fun s' hs' => by
      have wv' : am_inb (Int32.ofNat p) 240 = true := wv10
      refine ⟨?_, wv'⟩
      obtain ⟨q1, q2, q3, q4, q5, q6, q7, rfl⟩ := hs'
      rw [fq10_variable] at ev10
      rw [fq10_variable]
      simp only [hv_wrs]
      exact ev10
    have hWI : ∀ s' cur, KW s s' → c ≤ cur → cur < en → hm_alone s' = upd (hm_alone s) v (Int32.ofNat cur) → WI (qa2_alone m v (Int32.ofNat cur)) s' := fun s' cur hs' h1 h2 h4 => by
      obtain ⟨q1, q2, q3, q4, q5, q6, q7, rfl⟩ := hs'
      unfold WI Jz
      rw [h4]
      simp only [hv_wrs, qa2_alone, qv2_alone]
      refine ⟨fun w hw => ?_, hW.2.1, hW.2.2⟩
      by_cases hwv : w = v
      · subst hwv
        rw [upd_at, upd_at]
        exact ⟨k, g12, g13, g14, Or.inr ⟨cur, by omega, by omega, Eq.refl _, Eq.refl _⟩⟩
      · rw [upd_ne hwv, upd_ne hwv]
        exact hW.1 w hw
    obtain ⟨r, hr'⟩ : ∃ r, c + r + 1 = en := ⟨en - c - 1, by omega⟩
    have hO1 : Wo t (hu_alone (hu_deep (hu_saved (hu_loops s (upd (hm_loops s) e (Int32.ofNat p))) (upd (hm_saved s) e (hm_alone s v))) (Int32.ofNat (e + 1))) (upd (hm_alone s) v (Int32.ofNat c))) := by
      refine hO.cong ?_ ?_ ?_
      · simp only [hv_alone, hv_deep, hv_saved, hv_loops]
      · simp only [hv_alone, hv_deep, hv_saved, hv_loops]
      · simp only [hv_alone, hv_deep, hv_saved, hv_loops]
    have hK1 : KW s (hu_alone (hu_deep (hu_saved (hu_loops s (upd (hm_loops s) e (Int32.ofNat p))) (upd (hm_saved s) e (hm_alone s v))) (Int32.ofNat (e + 1))) (upd (hm_alone s) v (Int32.ofNat c))) := (KW.loops _ _).trans ((KW.saved _ _).trans ((KW.deep _ _).trans (KW.alone _ _)))
    obtain ⟨u1, t2, s2, b2', u2, u3, u4, u5, u6, u7⟩ := l_loop (al := hm_alone s) (m := m) hF hSim hKZ (RG.body hF hr hb hpb h3) hp h3 hd he hB hv evs g12 g14 g15 g11 g16 hWI r c hg_fu t m _ hr' (by omega) (by rw [hg_fu_eq]; omega) (fun z => rfl) hK1 (by simp only [hv_alone]) (by simp only [hv_alone, hv_deep]) (by simp only [hv_alone, hv_deep, hv_saved, upd_at]) hO1
    refine ⟨u1, t2, s2, b2', u2, u3, hK1.trans u4, u5, R1.trans u6 (ar3 hd (by omega) (by omega)), fun w => ?_⟩
    obtain ⟨x1, x2, x3, x4⟩ := u7 w
    refine ⟨x1, x2, x3.trans hdp.symm, fun j hj => ?_⟩
    rw [x4 j hj]
    simp only [hv_alone, hv_deep, hv_saved]
    rw [upd_ne (by omega)]
  · rw [if_neg hce, if_neg (by decide)] at eb
    have R1 := ws3 hB hp hf h3 wb eb
    have e1 : Int32.ofNat en ≤ Int32.ofNat c := (q_le (by omega) (by omega)).mpr (by omega)
    rw [hfu]
    refine ⟨⟨fun _ => w5 _, fun q => absurd e1 q⟩, t, s, C p + 1, ?_, hO, KW.rfl s, by omega, R1.mono (ar1 (by omega)), fun _ => ⟨rfl, FR.rfl e s⟩⟩
    unfold fn8_loop_c31
    rw [if_pos e1, leave m hv, al_id]
theorem sp_full {x : qt5} {K : KT} {KP : KPT} {t : qt6} {m : qt2} {v4 v5 v6 : Int32} (h : v4 ≤ v6 ∨ ¬ qg6_spilled t = 0) (fu : Nat) : wp8_spanB_c11 (fu + 1) K KP t x m v4 v5 v6 ∧ fn8_spanB_c11 (fu + 1) K KP t x m v4 v5 v6 = (t, m) := by
  by_cases h1 : v4 ≤ v6
  · refine ⟨⟨fun _ => trivial, fun q => absurd h1 q⟩, ?_⟩
    unfold fn8_spanB_c11
    rw [if_pos h1]
  · have h2 := h.resolve_left h1
    refine ⟨⟨fun q => absurd q h1, fun _ => ⟨fun q => absurd q h2, fun _ => trivial⟩⟩, ?_⟩
    unfold fn8_spanB_c11
    rw [if_neg h1, if_neg h2]
theorem arS {b p q d N : Nat} (h1 : p < q) (h2 : q ≤ b) (hN : N ≤ (q - p) * 4 ^ (6 - d)) : N + (b - q) * 4 ^ (6 - d) ≤ (b - p) * 4 ^ (6 - d) := by
  have e : b - p = (q - p) + (b - q) := by omega
  rw [e, Nat.add_mul]
  omega
theorem l_span {x : qt5} {so T C O dep : Nat → Nat} {L n d b : Nat} {K : KT} {KP : KPT} {m : qt2} (hF : SF so T C O dep n) (h5 : ∀ j, j < n → so j ≤ 5) (hSim : d ≤ 5 → Sim x so T C O dep L n K KP (d + 1)) (hKZ : d ≤ 5 → KZ x K KP (d + 1)) (hb : b ≤ n) : ∀ (w p fu e : Nat) (t : qt6) (s : hs), b - p ≤ w → w < fu → p ≤ b → RG so C O dep p b d → e ≤ d → BA x s so T C O L n n → WI m s → Wo t s → hm_deep s = Int32.ofNat e → wp8_spanB_c11 fu K KP t x m (Int32.ofNat b) (Int32.ofNat d) (Int32.ofNat p) ∧ Ot n m s p b e ((b - p) * 4 ^ (6 - d)) (fn8_spanB_c11 fu K KP t x m (Int32.ofNat b) (Int32.ofNat d) (Int32.ofNat p)) := by
  intro w
  induction w with
  | zero =>
    intro p fu e t s hw hfu hpb hr he hB hW hO hdp
    obtain ⟨fu, rfl⟩ : ∃ f, fu = f + 1 := ⟨fu - 1, by omega⟩
    have hn : n ≤ 240 := by have := hB.2.1; have := hB.2.2.1; omega
    obtain ⟨z1, z2⟩ := sp_full (x := x) (K := K) (KP := KP) (t := t) (m := m) (v4 := Int32.ofNat b) (v5 := Int32.ofNat d) (v6 := Int32.ofNat p) (Or.inl ((q_le (by omega) (by omega)).mpr (by omega))) fu
    have hpe : p = b := by omega
    subst hpe
    exact ⟨z1, t, s, p, z2, hO, KW.rfl s, by omega, RN.rfl s p _, fun _ => ⟨rfl, FR.rfl e s⟩⟩
  | succ w ih =>
    intro p fu e t s hw hfu hpb hr he hB hW hO hdp
    obtain ⟨fu, rfl⟩ : ∃ f, fu = f + 1 := ⟨fu - 1, by omega⟩
    have hn : n ≤ 240 := by have := hB.2.1; have := hB.2.2.1; omega
    by_cases hpe : p = b
    · obtain ⟨z1, z2⟩ := sp_full (x := x) (K := K) (KP := KP) (t := t) (m := m) (v4 := Int32.ofNat b) (v5 := Int32.ofNat d) (v6 := Int32.ofNat p) (Or.inl ((q_le (by omega) (by omega)).mpr (by omega))) fu
      subst hpe
      exact ⟨z1, t, s, p, z2, hO, KW.rfl s, by omega, RN.rfl s p _, fun _ => ⟨rfl, FR.rfl e s⟩⟩
    by_cases hf : hm_full s = 0
    · have hp : p < n := by omega
      have hlt : p < b := by omega
      have e0 : ¬ Int32.ofNat b ≤ Int32.ofNat p := by rw [q_le (by omega) (by omega)]; omega
      have hsp : qg6_spilled t = 0 := hO.fl.1.mpr hf
      obtain ⟨ec, et, wc, wt, wk, ek, wcd, ecd⟩ := hB.cl hp
      have hnc := RG.nc hF hr hb hlt
      have hso := h5 p hp
      have mxe : ∀ q, q ≤ 240 → p ≤ q → fnJ_max (Int32.ofNat q) (Int32.ofNat p) + 1 = Int32.ofNat (q + 1) := fun q h1 h2 => by rw [mx (by omega) (by omega), Nat.max_eq_left h2, q_1]
      have kk : ∀ a : Nat, a ≤ 10 → (Int32.ofNat (so p + 1) = Int32.ofNat a ↔ so p + 1 = a) := fun a ha => q_eq (by omega) (by omega)
      by_cases h0 : so p = 0
      · have hcp : C p = p := hF.2.2.2 p (by intro q; rcases q with q | q <;> omega)
        have hch := hB.ch
        have esg := hch.sign (a := p) (by omega)
        have esg : fn5_sign x (Int32.ofNat p) = hm_sign s p := by
          rw [esg]
          show (if p < n ∧ so p = 0 then hm_sign s p else 0) = hm_sign s p
          rw [if_pos ⟨hp, h0⟩]
        have wsg := hch.wsign (a := p) (by omega)
        have ok : okc (hm_sign s p) := by
          obtain ⟨so', k1, k2, k3, k4, k5, k6, k7, k8, k9⟩ := hB.1.2.2.1 p hp
          have : so' = so p := (q_eq (by omega) (by omega)).mp (k2.symm.trans (hB.2.2.2.2.2.2.1 p hp).1)
          exact k8 (by omega)
        obtain ⟨p1, p2, p3⟩ := em_put hO ok
        have R := ws0 hB hp hf h0 hO.s
        obtain ⟨q1, q2, q3, q4⟩ := (put_KO s (hm_sign s p)).kw
        obtain ⟨r1, t2, s2, b2', r2, r3, r4, r5, r6, r7⟩ := ih (p + 1) fu e (fn6_put 1000 t (hm_sign s p)).2 (fn10_put s (hm_sign s p)) (by omega) (by omega) (by omega) (RG.step hF hr hb (by intro q; rcases q with q | q <;> omega)) he (hB.kw q1) (hW.kw q1 q2) p3 (q3.trans hdp)
        have K1 : fn5_kind x (Int32.ofNat p) = 1 := by rw [ek, h0]; rfl
        constructor
        · refine ⟨fun q => absurd q e0, fun _ => ⟨fun _ => ⟨wk, fun _ => ⟨wsg, ?_⟩, fun q => absurd K1 q⟩, fun q => absurd hsp q⟩⟩
          rw [esg, ec, hcp, mxe p (by omega) (by omega)]
          exact ⟨p1, wc, trivial, r1⟩
        · conv => arg 8; unfold fn8_spanB_c11
          rw [if_neg e0, if_pos hsp, if_pos K1, esg, ec, hcp, mxe p (by omega) (by omega)]
          refine ⟨t2, s2, b2', r2, r3, q1.trans r4, r5, R.trans r6 (arS (by omega) (by omega) ?_), fun z => ⟨(r7 z).1, FR.trans ⟨q2, q3, fun j _ => by rw [q4]⟩ (r7 z).2⟩⟩
          rw [show p + 1 - p = 1 by omega, Nat.one_mul]
          exact pw1 d
      by_cases h1 : so p = 1
      · have hcp : C p = p := hF.2.2.2 p (by intro q; rcases q with q | q <;> omega)
        obtain ⟨v, hv, ev, ev10, wv, wv10⟩ := hB.vr hp (by omega) (by omega)
        obtain ⟨wf, wf10, q, k, g, ef, ef10, hit⟩ := hW.first hv
        obtain ⟨hvc, hmk⟩ := hB.2.2.2.2.2.2.2.2.2.2 p hp h1
        obtain ⟨a1, a2⟩ := v_cls hit hvc t
        obtain ⟨c1, c2⟩ := v_ref hit hW.2.2 hvc
        have hgo : Wo (pA t (vls (qg5_codes x p) g k)) (pB s (vls (qg5_codes x p) g k)) := em_list _ t s hO (vls_ok _ hit.2.1)
        have R := ws1 hB hp hf h1 wv10 (by rw [ev10]; exact wf10) (by rw [ev10, ef10, hmk]; exact c1 hO.s)
        rw [ev10, ef10, hmk, c2] at R
        obtain ⟨q1, q2, q3, q4⟩ := (pB_KO (vls (qg5_codes x p) g k) s).kw
        obtain ⟨r1, t2, s2, b2', r2, r3, r4, r5, r6, r7⟩ := ih (p + 1) fu e (pA t (vls (qg5_codes x p) g k)) (pB s (vls (qg5_codes x p) g k)) (by omega) (by omega) (by omega) (RG.step hF hr hb (by intro q; rcases q with q | q <;> omega)) he (hB.kw q1) (hW.kw q1 q2) hgo (q3.trans hdp)
        have K2 : fn5_kind x (Int32.ofNat p) = 2 := by rw [ek, h1]; rfl
        have K1 : ¬ fn5_kind x (Int32.ofNat p) = 1 := by rw [K2]; decide
        constructor
        · refine ⟨fun q => absurd q e0, fun _ => ⟨fun _ => ⟨wk, fun q => absurd q K1, fun _ => ⟨fun _ => ⟨wv, ?_⟩, fun q => absurd K2 q⟩⟩, fun q => absurd hsp q⟩⟩
          rw [ev, ef, ecd, a2, ec, hcp, mxe p (by omega) (by omega)]
          exact ⟨wf, wcd, a1 hO.t, wc, trivial, r1⟩
        · conv => arg 8; unfold fn8_spanB_c11
          rw [if_neg e0, if_pos hsp, if_neg K1, if_pos K2, ev, ef, ecd, a2, ec, hcp, mxe p (by omega) (by omega)]
          refine ⟨t2, s2, b2', r2, r3, q1.trans r4, r5, R.trans r6 (arS (by omega) (by omega) ?_), fun z => ⟨(r7 z).1, FR.trans ⟨q2, q3, fun j _ => by rw [q4]⟩ (r7 z).2⟩⟩
          rw [show p + 1 - p = 1 by omega, Nat.one_mul]
          exact pw1 d
      -- an opener
      have hop : opn so p := by
        have := hnc.1
        have := hnc.2
        unfold opn
        omega
      obtain ⟨b1, b2, b3, b4, b5, b6, b7, -⟩ := hF.1 p hp hop
      have hcb := (hr.1 p (by omega) hlt hop).1
      have hd : d ≤ 5 := by have := (hr.1 p (by omega) hlt hop).2; omega
      -- what comes behind it
      have rest : ∀ A : qt6 × qt2, Ot n m s p (C p + 1) e ((C p + 1 - p) * 4 ^ (6 - d)) A → wp8_spanB_c11 fu K KP A.1 x A.2 (Int32.ofNat b) (Int32.ofNat d) (Int32.ofNat (C p + 1)) ∧ Ot n m s p b e ((b - p) * 4 ^ (6 - d)) (fn8_spanB_c11 fu K KP A.1 x A.2 (Int32.ofNat b) (Int32.ofNat d) (Int32.ofNat (C p + 1))) := by
        intro A hA
        obtain ⟨t1, s1, b1', rfl, z3, z4, z5, z6, z7⟩ := hA
        by_cases hf1 : hm_full s1 = 0
        · obtain ⟨rfl, y1, y2, y3⟩ := z7 hf1
          obtain ⟨r1, t2, s2, b2', r2, r3, r4, r5, r6, r7⟩ := ih (C p + 1) fu e t1 s1 (by omega) (by omega) (by omega) (RG.over hF hr hb hlt hop) he (hB.kw z4) (hW.kw z4 y1) z3 (y2.trans hdp)
          exact ⟨r1, t2, s2, b2', r2, r3, z4.trans r4, r5, z6.trans r6 (arS (by omega) (by omega) (Nat.le_refl _)), fun z => ⟨(r7 z).1, FR.trans ⟨y1, y2, y3⟩ (r7 z).2⟩⟩
        · obtain ⟨fu, rfl⟩ : ∃ f, fu = f + 1 := ⟨fu - 1, by omega⟩
          obtain ⟨u1, u2⟩ := sp_full (x := x) (K := K) (KP := KP) (t := t1) (m := m) (v4 := Int32.ofNat b) (v5 := Int32.ofNat d) (v6 := Int32.ofNat (C p + 1)) (Or.inr (fun q => hf1 (z3.fl.1.mp q))) fu
          refine ⟨u1, t1, s1, b1', u2, z3, z4, z5, z6.mono ?_, fun q => absurd q hf1⟩
          exact Nat.mul_le_mul_right _ (by omega)
      rcases hop with h2 | h3
      · obtain ⟨y1, y2⟩ := op_choice hF (hSim hd) (hKZ hd) hr hlt hb h2 he hB hW hO hdp hf
        obtain ⟨r1, r2⟩ := rest _ y2
        have K3 : fn5_kind x (Int32.ofNat p) = 3 := by rw [ek, h2]; rfl
        have K1 : ¬ fn5_kind x (Int32.ofNat p) = 1 := by rw [K3]; decide
        have K2 : ¬ fn5_kind x (Int32.ofNat p) = 2 := by rw [K3]; decide
        constructor
        · refine ⟨fun q => absurd q e0, fun _ => ⟨fun _ => ⟨wk, fun q => absurd q K1, fun _ => ⟨fun q => absurd q K2, fun _ => ⟨fun _ => ⟨y1, wc, trivial, ?_⟩, fun q => absurd K3 q⟩⟩⟩, fun q => absurd hsp q⟩⟩
          rw [ec, mxe (C p) (by omega) (by omega)]
          exact r1
        · conv => arg 8; unfold fn8_spanB_c11
          rw [if_neg e0, if_pos hsp, if_neg K1, if_neg K2, if_pos K3, ec, mxe (C p) (by omega) (by omega)]
          exact r2
      · obtain ⟨y1, y2⟩ := op_loop hF (hSim hd) (hKZ hd) hr hlt hb h3 he hB hW hO hdp hf
        obtain ⟨r1, r2⟩ := rest _ y2
        have K4 : fn5_kind x (Int32.ofNat p) = 4 := by rw [ek, h3]; rfl
        have K1 : ¬ fn5_kind x (Int32.ofNat p) = 1 := by rw [K4]; decide
        have K2 : ¬ fn5_kind x (Int32.ofNat p) = 2 := by rw [K4]; decide
        have K3 : ¬ fn5_kind x (Int32.ofNat p) = 3 := by rw [K4]; decide
        constructor
        · refine ⟨fun q => absurd q e0, fun _ => ⟨fun _ => ⟨wk, fun q => absurd q K1, fun _ => ⟨fun q => absurd q K2, fun _ => ⟨fun q => absurd q K3, fun _ => ⟨fun _ => ⟨y1, wc, trivial, ?_⟩, fun q => absurd K4 q⟩⟩⟩⟩, fun q => absurd hsp q⟩⟩
          rw [ec, mxe (C p) (by omega) (by omega)]
          exact r1
        · conv => arg 8; unfold fn8_spanB_c11
          rw [if_neg e0, if_pos hsp, if_neg K1, if_neg K2, if_neg K3, if_pos K4, ec, mxe (C p) (by omega) (by omega)]
          exact r2
    · obtain ⟨z1, z2⟩ := sp_full (x := x) (K := K) (KP := KP) (t := t) (m := m) (v4 := Int32.ofNat b) (v5 := Int32.ofNat d) (v6 := Int32.ofNat p) (Or.inr (fun q => hf (hO.fl.1.mp q))) fu
      exact ⟨z1, t, s, p, z2, hO, KW.rfl s, by omega, RN.rfl s p _, fun q => absurd q hf⟩
theorem kz_span (x : qt5) (rd : Nat) {d : Nat} (hd : d ≤ 6) : KZ x (fk8_span (rd + 1)).1 (fk8_span (rd + 1)).2 d := by
  intro a b t m ha hb h
  have e6 : Int32.ofNat d ≤ 6 := (q_le (b := 6) (by omega) (by omega)).mpr hd
  have hfu : hg_fu = 999 + 1 := hg_fu_eq
  obtain ⟨z1, z2⟩ := sp_full (x := x) (K := (fk8_span rd).1) (KP := (fk8_span rd).2) (t := t) (m := m) (v4 := Int32.ofNat b) (v5 := Int32.ofNat d) (v6 := Int32.ofNat a) (by
    rcases h with h | h
    · exact Or.inl ((q_le (by omega) (by omega)).mpr h)
    · exact Or.inr h) 999
  rw [← hfu] at z1 z2
  unfold fk8_span
  refine ⟨⟨fun _ => z1, fun q => absurd e6 q⟩, ?_⟩
  show fn8_spanB (fk8_span rd).1 (fk8_span rd).2 t x m (Int32.ofNat a) (Int32.ofNat b) (Int32.ofNat d) = _
  rw [fq8_spanB, if_pos e6, z2]
theorem sim_span {x : qt5} {so T C O dep : Nat → Nat} {L n : Nat} (hF : SF so T C O dep n) (h5 : ∀ j, j < n → so j ≤ 5) : ∀ (rd d : Nat), d ≤ 6 → 7 ≤ rd + d → Sim x so T C O dep L n (fk8_span rd).1 (fk8_span rd).2 d := by
  intro rd
  induction rd with
  | zero => intro d h1 h2; omega
  | succ rd ih =>
    intro d h1 h2 a b e t m s hr hab hb he hB hW hO hdp
    have hn : n ≤ 240 := by have := hB.2.1; have := hB.2.2.1; omega
    have e6 : Int32.ofNat d ≤ 6 := (q_le (b := 6) (by omega) (by omega)).mpr h1
    have hKZ : d ≤ 5 → KZ x (fk8_span rd).1 (fk8_span rd).2 (d + 1) := fun hd => by
      obtain ⟨rd, rfl⟩ : ∃ r, rd = r + 1 := ⟨rd - 1, by omega⟩
      exact kz_span x rd (by omega)
    obtain ⟨z1, z2⟩ := l_span (L := L) (b := b) (m := m) hF h5 (fun hd => ih (d + 1) (by omega) (by omega)) hKZ hb (b - a) a hg_fu e t s (Nat.le_refl _) (by rw [hg_fu_eq]; omega) hab hr he hB hW hO hdp
    unfold fk8_span
    refine ⟨⟨fun _ => z1, fun q => absurd e6 q⟩, ?_⟩
    show Ot n m s a b e _ (fn8_spanB (fk8_span rd).1 (fk8_span rd).2 t x m (Int32.ofNat a) (Int32.ofNat b) (Int32.ofNat d))
    rw [fq8_spanB, if_pos e6]
    exact z2
