/-! writing: regions run alike; choices -/
abbrev KT : Type := qt6 → qt5 → qt2 → Int32 → Int32 → Int32 → qt6 × qt2
abbrev KPT : Type := qt6 → qt5 → qt2 → Int32 → Int32 → Int32 → Prop
def FR (e : Nat) (s s' : hs) : Prop := hm_alone s' = hm_alone s ∧ hm_deep s' = hm_deep s ∧ ∀ j, j < e → hm_saved s' j = hm_saved s j
theorem FR.rfl (e : Nat) (s : hs) : FR e s s := ⟨Eq.refl _, Eq.refl _, fun _ _ => Eq.refl _⟩
theorem FR.trans {e : Nat} {a b c : hs} (h : FR e a b) (h' : FR e b c) : FR e a c := ⟨h'.1.trans h.1, h'.2.1.trans h.2.1, fun j hj => (h'.2.2 j hj).trans (h.2.2 j hj)⟩
def Ot (n : Nat) (m : qt2) (s : hs) (p b e N : Nat) (A : qt6 × qt2) : Prop := ∃ t' s' b', A = (t', m) ∧ Wo t' s' ∧ KW s s' ∧ b' ≤ n ∧ RN s p s' b' N ∧ (hm_full s' = 0 → b' = b ∧ FR e s s')
def Sim (x : qt5) (so T C O dep : Nat → Nat) (L n : Nat) (K : KT) (KP : KPT) (d : Nat) : Prop := ∀ (a b e : Nat) (t : qt6) (m : qt2) (s : hs), RG so C O dep a b d → a ≤ b → b ≤ n → e ≤ d → BA x s so T C O L n n → WI m s → Wo t s → hm_deep s = Int32.ofNat e → KP t x m (Int32.ofNat a) (Int32.ofNat b) (Int32.ofNat d) ∧ Ot n m s a b e ((b - a) * 4 ^ (6 - d)) (K t x m (Int32.ofNat a) (Int32.ofNat b) (Int32.ofNat d))
def KZ (x : qt5) (K : KT) (KP : KPT) (d : Nat) : Prop := ∀ (a b : Nat) (t : qt6) (m : qt2), a ≤ 1000 → b ≤ 1000 → (b ≤ a ∨ ¬ qg6_spilled t = 0) → KP t x m (Int32.ofNat a) (Int32.ofNat b) (Int32.ofNat d) ∧ K t x m (Int32.ofNat a) (Int32.ofNat b) (Int32.ofNat d) = (t, m)
theorem Wo.fl {t : qt6} {s : hs} (h : Wo t s) : (qg6_spilled t = 0 ↔ hm_full s = 0) ∧ (¬ hm_full s = 0 → hm_full s = 1) := by
  obtain ⟨k, -, -, -, h⟩ := h
  rcases h with ⟨h1, h2⟩ | ⟨h1, h2, -⟩
  · rw [h1, h2]
    exact ⟨⟨fun _ => rfl, fun _ => rfl⟩, fun q => absurd rfl q⟩
  · rw [h1, h2]
    exact ⟨⟨fun q => absurd q (by decide), fun q => absurd q (by decide)⟩, fun _ => rfl⟩
theorem pw4 {d : Nat} (hd : d ≤ 5) : 4 ^ (6 - d) = 4 * 4 ^ (6 - (d + 1)) := by
  rw [show 6 - d = (6 - (d + 1)) + 1 by omega, Nat.pow_succ, Nat.mul_comm]
theorem pw1 (d : Nat) : 1 ≤ 4 ^ (6 - d) := Nat.pow_pos (by omega)
theorem ar1 {c p d : Nat} (h : p ≤ c) : 1 ≤ (c + 1 - p) * 4 ^ (6 - d) := Nat.mul_pos (by omega) (pw1 d)
theorem ar2 {a b c p d : Nat} (hd : d ≤ 5) (h1 : p < a) (h2 : a ≤ b) (h3 : b ≤ c) : 1 + (b - a) * 4 ^ (6 - (d + 1)) + 1 ≤ (c + 1 - p) * 4 ^ (6 - d) := by
  rw [pw4 hd]
  have hz := pw1 (d + 1)
  generalize 4 ^ (6 - (d + 1)) = Z at *
  have k1 : ((b - a) + 2) * Z ≤ (c + 1 - p) * Z := Nat.mul_le_mul_right _ (by omega)
  have k2 : (c + 1 - p) * Z ≤ (c + 1 - p) * (4 * Z) := Nat.mul_le_mul_left _ (by omega)
  rw [Nat.add_mul] at k1
  omega
theorem ar3 {c p d r : Nat} (hd : d ≤ 5) (h1 : p < c) (hr : r ≤ 4) : 1 + r * ((c - (p + 1)) * 4 ^ (6 - (d + 1)) + 1) ≤ (c + 1 - p) * 4 ^ (6 - d) := by
  rw [pw4 hd]
  have hz := pw1 (d + 1)
  generalize 4 ^ (6 - (d + 1)) = Z at *
  obtain ⟨y, hy⟩ : ∃ y, c = p + 1 + y := ⟨c - (p + 1), by omega⟩
  have e1 : c - (p + 1) = y := by omega
  have e2 : c + 1 - p = y + 2 := by omega
  rw [e1, e2, Nat.add_mul, Nat.mul_left_comm y 4 Z]
  generalize y * Z = W
  have k1 : r * (W + 1) ≤ 4 * (W + 1) := Nat.mul_le_mul_right _ hr
  omega
theorem BA.cl {x : qt5} {s : hs} {so T C O : Nat → Nat} {L n p : Nat} (h : BA x s so T C O L n n) (hp : p < n) : fn5_close x (Int32.ofNat p) = Int32.ofNat (C p) ∧ fn5_turn x (Int32.ofNat p) = Int32.ofNat (T p) ∧ wp5_close x (Int32.ofNat p) ∧ wp5_turn x (Int32.ofNat p) ∧ wp5_kind x (Int32.ofNat p) ∧ fn5_kind x (Int32.ofNat p) = Int32.ofNat (so p + 1) ∧ wp5_code x (Int32.ofNat p) ∧ fn5_code x (Int32.ofNat p) = qg5_codes x p := by
  obtain ⟨a1, a2, a3, a4, a5, a6, a7, a8, -⟩ := h
  have hn : n ≤ 240 := by omega
  have h1 := has1 a1.1 hn hp
  have w : wp5_close x (Int32.ofNat p) := wp_has a1.1 hn (by omega)
  refine ⟨?_, ?_, w, w, w, ?_, w, ?_⟩
  · rw [fq5_close, h1, if_neg (by decide), q_cl (by omega)]
    exact (a8 p hp).2
  · rw [fq5_turn, h1, if_neg (by decide), q_cl (by omega)]
    exact (a8 p hp).1
  · rw [kd a1.1 hn hp]
    obtain ⟨so', g1, g2, g3, -⟩ := a1.2.2.1 p hp
    have : so' = so p := (q_eq (by omega) (by have := (a7 p hp).2; omega)).mp (g2.symm.trans (a7 p hp).1)
    rw [← this]
    exact g3
  · rw [fq5_code, h1, if_neg (by decide), q_cl (by omega)]
/-- the reference at what closes a choice -/
theorem cls2 {x : qt5} {s : hs} {so T C O dep : Nat → Nat} {L n p : Nat} (hF : SF so T C O dep n) (h : BA x s so T C O L n n) (hp : p < n) (h2 : so p = 2) : wp10_close s (Int32.ofNat (C p)) ∧ fn10_close s (Int32.ofNat (C p)) = (Int32.ofNat (C p + 1), s) := by
  obtain ⟨b1, b2, b3, b4, b5, b6, -⟩ := hF.1 p hp (Or.inl h2)
  have hn : n ≤ 240 := by have := h.2.1; have := h.2.2.1; omega
  have eo : hm_opener s (Int32.ofNat (C p)).toNatClampNeg = Int32.ofNat p := by
    rw [q_cl (by omega), h.2.2.2.2.2.2.2.2.2.1 (C p) b4 (Or.inr b5), b6]
  have es : hm_sort s (hm_opener s (Int32.ofNat (C p)).toNatClampNeg).toNatClampNeg = 2 := by
    rw [eo, (w_sort h hp).2.1, h2]
    rfl
  refine ⟨⟨q_inb (by omega) (by omega), by rw [eo]; exact q_inb (by omega) (by omega), fun _ => trivial, fun q => absurd es q⟩, ?_⟩
  rw [fq10_close, if_pos es, q_1]
theorem cho {x : qt5} {m : qt2} {s : hs} {so T C O dep : Nat → Nat} {L n p : Nat} (hF : SF so T C O dep n) (h : BA x s so T C O L n n) (hp : p < n) (h2 : so p = 2) {v k : Nat} {q : Int32} {g : Nat → Int32} (wv : wp10_variable s (Int32.ofNat p)) (ev : fn10_variable s (Int32.ofNat p) = Int32.ofNat v) (wf : wp10_firstItem s (Int32.ofNat v)) (ef : fn10_firstItem s (Int32.ofNat v) = q) (hit : IT m s q k g) : wp10_choose s (Int32.ofNat p) ∧ fn10_choose s (Int32.ofNat p) = Int32.ofNat (if k = 0 then (if T p = C p then C p + 1 else T p + 1) else p + 1) := by
  obtain ⟨b1, b2, b3, b4, b5, b6, b7, -⟩ := hF.1 p hp (Or.inl h2)
  have hn : n ≤ 240 := by have := h.2.1; have := h.2.2.1; omega
  have hin : am_inb (Int32.ofNat p) 240 = true := q_inb (by omega) (by omega)
  have c1 : (Int32.ofNat p).toNatClampNeg = p := q_cl (by omega)
  obtain ⟨o1, o2⟩ := h.2.2.2.2.2.2.2.2.1 p hp (Or.inl h2)
  have o2 := o2 (by omega)
  have hk' := hit.1
  have Z : (if hm_other s (Int32.ofNat p).toNatClampNeg < 0 then hm_closing s (Int32.ofNat p).toNatClampNeg + 1 else hm_other s (Int32.ofNat p).toNatClampNeg + 1) = Int32.ofNat (if T p = C p then C p + 1 else T p + 1) := by
    rw [c1, o1, o2]
    by_cases ht : T p = C p
    · rw [if_pos (Or.inr ht), if_pos (by decide), if_pos ht, q_1]
    · rw [if_neg (show ¬ (T p = p ∨ T p = C p) by omega), if_neg (q_pos (by omega)), if_neg ht, q_1]
  constructor
  · unfold wp10_choose
    rw [ev, ef]
    refine ⟨wv, wf, fun _ => ⟨hin, fun _ => hin, fun _ => hin⟩, fun hq => ?_⟩
    obtain ⟨i1, -⟩ := hit.rf (Int32.not_lt.mp hq)
    exact ⟨i1, fun _ => ⟨hin, fun _ => hin, fun _ => hin⟩, fun _ => trivial⟩
  · rw [fq10_choose, ev, ef]
    by_cases hq : q < 0
    · have h0 : k = 0 := by
        rcases hit.2.2 with ⟨-, q0⟩ | ⟨a, ha, rfl, -⟩
        · exact q0
        · exact absurd hq (q_pos (by omega))
      rw [if_pos hq, Z, if_pos h0]
    · obtain ⟨i1, i2, -⟩ := hit.rf (Int32.not_lt.mp hq)
      rw [if_neg hq, i2]
      by_cases h0 : k = 0
      · rw [if_pos (by rw [h0]; decide), Z, if_pos h0]
      · rw [if_neg (fun w => by have := (q_le (b := 0) (by omega) (by omega)).mp w; omega), if_neg h0, q_1]
theorem op_choice {x : qt5} {s : hs} {so T C O dep : Nat → Nat} {L n d p b e : Nat} {K : KT} {KP : KPT} {t : qt6} {m : qt2} (hF : SF so T C O dep n) (hSim : Sim x so T C O dep L n K KP (d + 1)) (hKZ : KZ x K KP (d + 1)) (hr : RG so C O dep p b d) (hpb : p < b) (hb : b ≤ n) (h2 : so p = 2) (he : e ≤ d) (hB : BA x s so T C O L n n) (hW : WI m s) (hO : Wo t s) (hdp : hm_deep s = Int32.ofNat e) (hf : hm_full s = 0) : wp8_choice K KP t x m (Int32.ofNat p) (Int32.ofNat d) ∧ Ot n m s p (C p + 1) e ((C p + 1 - p) * 4 ^ (6 - d)) (fn8_choice K KP t x m (Int32.ofNat p) (Int32.ofNat d)) := by
  have hp : p < n := by omega
  have hn : n ≤ 240 := by have := hB.2.1; have := hB.2.2.1; omega
  obtain ⟨b1, b2, b3, b4, b5, b6, b7, -⟩ := hF.1 p hp (Or.inl h2)
  have hd : d ≤ 5 := by have := (hr.1 p (by omega) hpb (Or.inl h2)).2; omega
  obtain ⟨v, hv, ev, ev10, wv, wv10⟩ := hB.vr hp (by omega) (by omega)
  obtain ⟨wf, wf10, q, k, g, ef, ef10, hit⟩ := hW.first hv
  obtain ⟨wl, el⟩ := hit.len
  have hk' := hit.1
  obtain ⟨ec, et, wc, wt, -⟩ := hB.cl hp
  obtain ⟨wch, ech⟩ := cho hF hB hp h2 wv10 ev10 wf10 ef10 hit
  have R1 := ws2 hB hp hf h2 wch ech
  have z0 : Int32.ofNat k ≤ 0 ↔ k = 0 := by
    have := q_le (a := k) (b := 0) (by omega) (by omega)
    exact ⟨fun w => by have := this.mp w; omega, fun w => this.mpr (by omega)⟩
  have ecls : ∀ s1, BA x s1 so T C O L n n → hm_full s1 = 0 → RN s1 (C p) s1 (C p + 1) 1 := fun s1 hB1 hf1 => by
    obtain ⟨w1, e1⟩ := cls2 hF hB1 hp h2
    exact ws5 hB1 b4 hf1 b5 w1 e1
  by_cases h0 : k = 0
  · rw [if_pos h0] at R1
    by_cases ht : T p = C p
    · rw [if_pos ht] at R1
      obtain ⟨z1, z2⟩ := hKZ (C p + 1) (C p) t m (by omega) (by omega) (Or.inl (by omega))
      constructor
      · unfold wp8_choice
        rw [ev, ef, el, et, ec, q_1, q_1, q_1, ht]
        exact ⟨wv, wf, wl, fun _ => ⟨wt, wc, z1⟩, fun w => absurd (z0.mpr h0) w⟩
      · rw [fq8_choice, ev, ef, el, et, ec, q_1, q_1, q_1, if_pos (z0.mpr h0), ht, z2]
        exact ⟨t, s, C p + 1, rfl, hO, KW.rfl s, by omega, R1.mono (ar1 (by omega)), fun _ => ⟨rfl, FR.rfl e s⟩⟩
    · rw [if_neg ht] at R1
      obtain ⟨z1, t1, s1, b1', z2, z3, z4, z5, z6, z7⟩ := hSim (T p + 1) (C p) e t m s (RG.second hF hr hb hpb h2 ht) (by omega) (by omega) (by omega) hB hW hO hdp
      constructor
      · unfold wp8_choice
        rw [ev, ef, el, et, ec, q_1, q_1, q_1]
        exact ⟨wv, wf, wl, fun _ => ⟨wt, wc, z1⟩, fun w => absurd (z0.mpr h0) w⟩
      · rw [fq8_choice, ev, ef, el, et, ec, q_1, q_1, q_1, if_pos (z0.mpr h0), z2]
        have ha := ar2 (a := T p + 1) (b := C p) (c := C p) (p := p) hd (by omega) (by omega) (by omega)
        by_cases hf1 : hm_full s1 = 0
        · obtain ⟨rfl, y2⟩ := z7 hf1
          exact ⟨t1, s1, C p + 1, rfl, z3, z4, by omega, (R1.trans z6 (Nat.le_refl _)).trans (ecls s1 (hB.kw z4) hf1) ha, fun _ => ⟨rfl, y2⟩⟩
        · exact ⟨t1, s1, b1', rfl, z3, z4, z5, R1.trans z6 (by omega), fun w => absurd w hf1⟩
  · rw [if_neg h0] at R1
    obtain ⟨z1, t1, s1, b1', z2, z3, z4, z5, z6, z7⟩ := hSim (p + 1) (T p) e t m s (RG.first hF hr hb hpb h2) (by omega) (by omega) (by omega) hB hW hO hdp
    constructor
    · unfold wp8_choice
      rw [ev, ef, el, et, ec, q_1, q_1, q_1]
      exact ⟨wv, wf, wl, fun w => absurd (z0.mp w) h0, fun _ => ⟨wt, z1⟩⟩
    · rw [fq8_choice, ev, ef, el, et, ec, q_1, q_1, q_1, if_neg (fun w => h0 (z0.mp w)), z2]
      have ha := ar2 (a := p + 1) (b := T p) (c := C p) (p := p) hd (by omega) (by omega) (by omega)
      by_cases hf1 : hm_full s1 = 0
      · obtain ⟨rfl, y2⟩ := z7 hf1
        have hB1 := hB.kw z4
        have R3 : RN s1 (T p) s1 (C p + 1) 1 := by
          by_cases ht : T p = C p
          · rw [ht]
            exact ecls s1 hB1 hf1
          · obtain ⟨-, b8, b9⟩ := b7 ht
            refine ws4 hB1 (by omega) hf1 b8 ?_ (by rw [b9]; exact hp)
            rw [b9]
            exact (hB1.2.2.2.2.2.2.2.2.1 p hp (Or.inl h2)).2 (by omega)
        exact ⟨t1, s1, C p + 1, rfl, z3, z4, by omega, (R1.trans z6 (Nat.le_refl _)).trans R3 ha, fun _ => ⟨rfl, y2⟩⟩
      · exact ⟨t1, s1, b1', rfl, z3, z4, z5, R1.trans z6 (by omega), fun w => absurd w hf1⟩
