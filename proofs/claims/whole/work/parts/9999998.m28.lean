/-! the reference's loop, step by step -/
theorem w_sort {x : qt5} {s : hs} {so T C O : Nat → Nat} {L n p : Nat} (h : BA x s so T C O L n n) (hp : p < n) : (¬ hm_symbols s ≤ Int32.ofNat p) ∧ hm_sort s (Int32.ofNat p).toNatClampNeg = Int32.ofNat (so p) ∧ am_inb (Int32.ofNat p) 240 = true ∧ so p ≤ 6 ∧ n ≤ 240 := by
  obtain ⟨a1, a2, a3, a4, a5, a6, a7, -⟩ := h
  refine ⟨?_, ?_, q_inb (by omega) (by omega), (a7 p hp).2, by omega⟩
  · rw [a1.2.1, q_le (by omega) (by omega)]
    omega
  · rw [q_cl (by omega)]
    exact (a7 p hp).1
theorem ws_full {x : qt5} {s : hs} {so T C O : Nat → Nat} {L n p : Nat} (h : BA x s so T C O L n n) (hp : p ≤ n) (hf : ¬ hm_full s = 0 ∨ p = n) (fu : Nat) : fn10_write_c42 (fu + 1) s (Int32.ofNat p) = fn10_write_c191 s ∧ (wp10_write_c191 s → wp10_write_c42 (fu + 1) s (Int32.ofNat p)) := by
  have hs' := h.1.2.1
  have hn : n ≤ 240 := by have := h.2.1; have := h.2.2.1; omega
  by_cases he : p = n
  · have e : hm_symbols s ≤ Int32.ofNat p := by rw [hs', q_le (by omega) (by omega)]; omega
    constructor
    · conv => lhs; unfold fn10_write_c42
      rw [if_pos e]
    · exact fun w => ⟨fun _ => w, fun q => absurd e q⟩
  · have e : ¬ hm_symbols s ≤ Int32.ofNat p := by rw [hs', q_le (by omega) (by omega)]; omega
    have hf := hf.resolve_right he
    constructor
    · conv => lhs; unfold fn10_write_c42
      rw [if_neg e, if_neg hf]
    · exact fun w => ⟨fun q => absurd q e, fun _ => ⟨fun q => absurd q hf, fun _ => w⟩⟩
theorem ws0 {x : qt5} {s : hs} {so T C O : Nat → Nat} {L n p : Nat} (h : BA x s so T C O L n n) (hp : p < n) (hf : hm_full s = 0) (h0 : so p = 0) (o : OS s) : RN s p (fn10_put s (hm_sign s p)) (p + 1) 1 := by
  obtain ⟨e1, e2, e3, e4, e5⟩ := w_sort h hp
  have es : hm_sort s (Int32.ofNat p).toNatClampNeg = 0 := by rw [e2, h0]; rfl
  have c1 : (Int32.ofNat p).toNatClampNeg = p := q_cl (by omega)
  refine RN.one fun fu => ⟨?_, fun w => ?_⟩
  · conv => lhs; unfold fn10_write_c42
    rw [if_neg e1, if_pos hf, if_pos es, c1, q_1]
  · refine ⟨fun q => absurd q e1, fun _ => ⟨fun _ => ⟨e3, fun _ => ⟨e3, ?_⟩, fun q => absurd es q⟩, fun q => absurd hf q⟩⟩
    rw [c1, q_1]
    exact ⟨o.w _, w⟩
theorem ws1 {x : qt5} {s : hs} {so T C O : Nat → Nat} {L n p : Nat} (h : BA x s so T C O L n n) (hp : p < n) (hf : hm_full s = 0) (h0 : so p = 1) (w1 : wp10_variable s (Int32.ofNat p)) (w2 : wp10_firstItem s (fn10_variable s (Int32.ofNat p))) (w3 : wp10_putItem s (hm_marked s p) (fn10_firstItem s (fn10_variable s (Int32.ofNat p)))) : RN s p (fn10_putItem s (hm_marked s p) (fn10_firstItem s (fn10_variable s (Int32.ofNat p)))) (p + 1) 1 := by
  obtain ⟨e1, e2, e3, e4, e5⟩ := w_sort h hp
  have es : hm_sort s (Int32.ofNat p).toNatClampNeg = 1 := by rw [e2, h0]; rfl
  have n0 : ¬ hm_sort s (Int32.ofNat p).toNatClampNeg = 0 := by rw [es]; decide
  have c1 : (Int32.ofNat p).toNatClampNeg = p := q_cl (by omega)
  refine RN.one fun fu => ⟨?_, fun w => ?_⟩
  · conv => lhs; unfold fn10_write_c42
    rw [if_neg e1, if_pos hf, if_neg n0, if_pos es, c1, q_1]
  · refine ⟨fun q => absurd q e1, fun _ => ⟨fun _ => ⟨e3, fun q => absurd q n0, fun _ => ⟨e3, fun _ => ⟨e3, w1, w2, ?_⟩, fun q => absurd es q⟩⟩, fun q => absurd hf q⟩⟩
    rw [c1, q_1]
    exact ⟨w3, w⟩
theorem ws2 {x : qt5} {s : hs} {so T C O : Nat → Nat} {L n p b : Nat} (h : BA x s so T C O L n n) (hp : p < n) (hf : hm_full s = 0) (h0 : so p = 2) (w1 : wp10_choose s (Int32.ofNat p)) (hb : fn10_choose s (Int32.ofNat p) = Int32.ofNat b) : RN s p s b 1 := by
  obtain ⟨e1, e2, e3, e4, e5⟩ := w_sort h hp
  have es : hm_sort s (Int32.ofNat p).toNatClampNeg = 2 := by rw [e2, h0]; rfl
  have n0 : ¬ hm_sort s (Int32.ofNat p).toNatClampNeg = 0 := by rw [es]; decide
  have n1 : ¬ hm_sort s (Int32.ofNat p).toNatClampNeg = 1 := by rw [es]; decide
  refine RN.one fun fu => ⟨?_, fun w => ?_⟩
  · conv => lhs; unfold fn10_write_c42
    rw [if_neg e1, if_pos hf, if_neg n0, if_neg n1, if_pos es, hb]
  · exact ⟨fun q => absurd q e1, fun _ => ⟨fun _ => ⟨e3, fun q => absurd q n0, fun _ => ⟨e3, fun q => absurd q n1, fun _ => ⟨e3, fun _ => ⟨w1, by rw [hb]; exact w⟩, fun q => absurd es q⟩⟩⟩, fun q => absurd hf q⟩⟩
theorem ws3 {x : qt5} {s : hs} {so T C O : Nat → Nat} {L n p b : Nat} (h : BA x s so T C O L n n) (hp : p < n) (hf : hm_full s = 0) (h0 : so p = 3) (w1 : wp10_beginLoop s (Int32.ofNat p)) {s' : hs} (hb : fn10_beginLoop s (Int32.ofNat p) = (Int32.ofNat b, s')) : RN s p s' b 1 := by
  obtain ⟨e1, e2, e3, e4, e5⟩ := w_sort h hp
  have es : hm_sort s (Int32.ofNat p).toNatClampNeg = 3 := by rw [e2, h0]; rfl
  have n0 : ¬ hm_sort s (Int32.ofNat p).toNatClampNeg = 0 := by rw [es]; decide
  have n1 : ¬ hm_sort s (Int32.ofNat p).toNatClampNeg = 1 := by rw [es]; decide
  have n2 : ¬ hm_sort s (Int32.ofNat p).toNatClampNeg = 2 := by rw [es]; decide
  refine RN.one fun fu => ⟨?_, fun w => ?_⟩
  · conv => lhs; unfold fn10_write_c42
    rw [if_neg e1, if_pos hf, if_neg n0, if_neg n1, if_neg n2, if_pos es, hb]
  · exact ⟨fun q => absurd q e1, fun _ => ⟨fun _ => ⟨e3, fun q => absurd q n0, fun _ => ⟨e3, fun q => absurd q n1, fun _ => ⟨e3, fun q => absurd q n2, fun _ => ⟨e3, fun _ => ⟨w1, by rw [hb]; exact w⟩, fun q => absurd es q⟩⟩⟩⟩, fun q => absurd hf q⟩⟩
theorem ws4 {x : qt5} {s : hs} {so T C O : Nat → Nat} {L n p c : Nat} (h : BA x s so T C O L n n) (hp : p < n) (hf : hm_full s = 0) (h0 : so p = 4) (hc : hm_closing s (O p) = Int32.ofNat c) (ho : O p < n) : RN s p s (c + 1) 1 := by
  obtain ⟨e1, e2, e3, e4, e5⟩ := w_sort h hp
  have es : hm_sort s (Int32.ofNat p).toNatClampNeg = 4 := by rw [e2, h0]; rfl
  have n0 : ¬ hm_sort s (Int32.ofNat p).toNatClampNeg = 0 := by rw [es]; decide
  have n1 : ¬ hm_sort s (Int32.ofNat p).toNatClampNeg = 1 := by rw [es]; decide
  have n2 : ¬ hm_sort s (Int32.ofNat p).toNatClampNeg = 2 := by rw [es]; decide
  have n3 : ¬ hm_sort s (Int32.ofNat p).toNatClampNeg = 3 := by rw [es]; decide
  have c1 : (Int32.ofNat p).toNatClampNeg = p := q_cl (by omega)
  have eo : hm_opener s (Int32.ofNat p).toNatClampNeg = Int32.ofNat (O p) := by rw [c1]; exact h.2.2.2.2.2.2.2.2.2.1 p hp (Or.inl h0)
  have c2 : (Int32.ofNat (O p)).toNatClampNeg = O p := q_cl (by omega)
  refine RN.one fun fu => ⟨?_, fun w => ?_⟩
  · conv => lhs; unfold fn10_write_c42
    rw [if_neg e1, if_pos hf, if_neg n0, if_neg n1, if_neg n2, if_neg n3, if_pos es, eo, c2, hc, q_1]
  · refine ⟨fun q => absurd q e1, fun _ => ⟨fun _ => ⟨e3, fun q => absurd q n0, fun _ => ⟨e3, fun q => absurd q n1, fun _ => ⟨e3, fun q => absurd q n2, fun _ => ⟨e3, fun q => absurd q n3, fun _ => ⟨e3, fun _ => ⟨e3, ?_⟩, fun q => absurd es q⟩⟩⟩⟩⟩, fun q => absurd hf q⟩⟩
    rw [eo, c2, hc, q_1]
    exact ⟨q_inb (by omega) (by omega), w⟩
theorem ws5 {x : qt5} {s : hs} {so T C O : Nat → Nat} {L n p b : Nat} (h : BA x s so T C O L n n) (hp : p < n) (hf : hm_full s = 0) (h0 : so p = 5) (w1 : wp10_close s (Int32.ofNat p)) {s' : hs} (hb : fn10_close s (Int32.ofNat p) = (Int32.ofNat b, s')) : RN s p s' b 1 := by
  obtain ⟨e1, e2, e3, e4, e5⟩ := w_sort h hp
  have es : hm_sort s (Int32.ofNat p).toNatClampNeg = 5 := by rw [e2, h0]; rfl
  have n0 : ¬ hm_sort s (Int32.ofNat p).toNatClampNeg = 0 := by rw [es]; decide
  have n1 : ¬ hm_sort s (Int32.ofNat p).toNatClampNeg = 1 := by rw [es]; decide
  have n2 : ¬ hm_sort s (Int32.ofNat p).toNatClampNeg = 2 := by rw [es]; decide
  have n3 : ¬ hm_sort s (Int32.ofNat p).toNatClampNeg = 3 := by rw [es]; decide
  have n4 : ¬ hm_sort s (Int32.ofNat p).toNatClampNeg = 4 := by rw [es]; decide
  refine RN.one fun fu => ⟨?_, fun w => ?_⟩
  · conv => lhs; unfold fn10_write_c42
    rw [if_neg e1, if_pos hf, if_neg n0, if_neg n1, if_neg n2, if_neg n3, if_neg n4, hb]
  · exact ⟨fun q => absurd q e1, fun _ => ⟨fun _ => ⟨e3, fun q => absurd q n0, fun _ => ⟨e3, fun q => absurd q n1, fun _ => ⟨e3, fun q => absurd q n2, fun _ => ⟨e3, fun q => absurd q n3, fun _ => ⟨e3, fun q => absurd q n4, fun _ => ⟨w1, by rw [hb]; exact w⟩⟩⟩⟩⟩⟩, fun q => absurd hf q⟩⟩
/-! regions -/
def RG (so C O dep : Nat → Nat) (a b d : Nat) : Prop := (∀ j, a ≤ j → j < b → opn so j → C j < b ∧ d ≤ dep j) ∧ ∀ j, a ≤ j → j < b → so j = 4 ∨ so j = 5 → a ≤ O j
def SF (so T C O dep : Nat → Nat) (n : Nat) : Prop := (∀ j, j < n → opn so j → dep j ≤ 5 ∧ j < T j ∧ T j ≤ C j ∧ C j < n ∧ so (C j) = 5 ∧ O (C j) = j ∧ (T j ≠ C j → so j = 2 ∧ so (T j) = 4 ∧ O (T j) = j) ∧ ∀ l, j < l → l < n → opn so l → (l < C j → C l < C j ∧ dep j < dep l) ∧ (l < T j → C l < T j)) ∧ (∀ c, c < n → so c = 5 → O c < c ∧ opn so (O c) ∧ C (O c) = c) ∧ (∀ c, c < n → so c = 4 → O c < c ∧ so (O c) = 2 ∧ T (O c) = c ∧ C (O c) ≠ c) ∧ ∀ j, ¬ opn so j → C j = j
theorem SI.fin {so T C O dep st : Nat → Nat} {n : Nat} (h : SI so T C O dep st n 0) : SF so T C O dep n := by
  obtain ⟨a1, a2, a3, a4, a5, a6, a7, a8⟩ := h
  refine ⟨fun j hj ho => ?_, a5, a6, a8⟩
  obtain ⟨b1, b2, b3, b4, b5⟩ := a4 j hj ho
  have hC : C j ≠ j := fun q => by obtain ⟨a, ha, _⟩ := b2 q; omega
  obtain ⟨c1, c2, c3, c4, c5⟩ := b3 hC
  refine ⟨b1, c1, c2, c3, c4, c5, fun q => ?_, fun l l1 l2 l3 => ⟨fun q => ?_, fun q => ?_⟩⟩
  · have := b4 (by omega) q
    exact ⟨this.1, this.2.2.2.1, this.2.2.2.2⟩
  · have := b5 l l1 l2 l3
    exact ⟨(this.1 hC q).2, this.2.2 (Or.inr q)⟩
  · exact ((b5 l l1 l2 l3).2.1 (by omega) q).2
theorem SF.t4 {so T C O dep : Nat → Nat} {n : Nat} (h : SF so T C O dep n) {c : Nat} (hc : c < n) (h4 : so c = 4 ∨ so c = 5) : O c < c ∧ opn so (O c) ∧ c ≤ C (O c) ∧ (so c = 4 → T (O c) = c ∧ c < C (O c)) ∧ (so c = 5 → C (O c) = c) := by
  rcases h4 with q | q
  · obtain ⟨a1, a2, a3, a4⟩ := h.2.2.1 c hc q
    obtain ⟨b1, b2, b3, -⟩ := h.1 (O c) (by omega) (Or.inl a2)
    exact ⟨a1, Or.inl a2, by omega, fun _ => ⟨a3, by omega⟩, fun w => by omega⟩
  · obtain ⟨a1, a2, a3⟩ := h.2.1 c hc q
    exact ⟨a1, a2, by omega, fun w => by omega, fun _ => a3⟩
theorem RG.nc {so T C O dep : Nat → Nat} {n a b d : Nat} (h : SF so T C O dep n) (hr : RG so C O dep a b d) (hb : b ≤ n) (hab : a < b) : so a ≠ 4 ∧ so a ≠ 5 := by
  constructor
  · intro q
    have := (h.t4 (c := a) (by omega) (Or.inl q)).1
    have := hr.2 a (by omega) hab (Or.inl q)
    omega
  · intro q
    have := (h.t4 (c := a) (by omega) (Or.inr q)).1
    have := hr.2 a (by omega) hab (Or.inr q)
    omega
theorem RG.step {so T C O dep : Nat → Nat} {n a b d : Nat} (h : SF so T C O dep n) (hr : RG so C O dep a b d) (hb : b ≤ n) (ho : ¬ opn so a) : RG so C O dep (a + 1) b d := by
  refine ⟨fun j h1 h2 h3 => hr.1 j (by omega) h2 h3, fun j h1 h2 h3 => ?_⟩
  have h4 := hr.2 j (by omega) h2 h3
  have h5 := (h.t4 (c := j) (by omega) h3).2.1
  have h6 : O j ≠ a := fun q => by rw [q] at h5; exact ho h5
  omega
theorem RG.over {so T C O dep : Nat → Nat} {n a b d : Nat} (h : SF so T C O dep n) (hr : RG so C O dep a b d) (hb : b ≤ n) (hab : a < b) (ho : opn so a) : RG so C O dep (C a + 1) b d := by
  obtain ⟨b1, b2, b3, b4, b5, b6, b7, b8⟩ := h.1 a (by omega) ho
  refine ⟨fun j h1 h2 h3 => hr.1 j (by omega) h2 h3, fun j h1 h2 h3 => ?_⟩
  have h4 := hr.2 j (by omega) h2 h3
  obtain ⟨t1, t2, t3, t4, t5⟩ := h.t4 (c := j) (by omega) h3
  have n1 : O j ≠ a := fun q => by rw [q] at t3; omega
  have n2 : O j ≠ C a := fun q => by rw [q] at t2; rcases t2 with t2 | t2 <;> omega
  have n3 : ¬ O j < C a := fun q => by
    have := (b8 (O j) (by omega) (by omega) t2).1 q
    omega
  omega
theorem RG.body {so T C O dep : Nat → Nat} {n a b d : Nat} (h : SF so T C O dep n) (hr : RG so C O dep a b d) (hb : b ≤ n) (hab : a < b) (ho : so a = 3) : RG so C O dep (a + 1) (C a) (d + 1) := by
  obtain ⟨b1, b2, b3, b4, b5, b6, b7, b8⟩ := h.1 a (by omega) (Or.inr ho)
  have hd := (hr.1 a (by omega) hab (Or.inr ho)).2
  have hc := (hr.1 a (by omega) hab (Or.inr ho)).1
  refine ⟨fun j h1 h2 h3 => ?_, fun j h1 h2 h3 => ?_⟩
  · have := (b8 j (by omega) (by omega) h3).1 h2
    omega
  · have h4 := hr.2 j (by omega) (by omega) h3
    obtain ⟨t1, t2, t3, t4, t5⟩ := h.t4 (c := j) (by omega) h3
    have n1 : O j ≠ a := fun q => by
      rcases h3 with w | w
      · have := (h.2.2.1 j (by omega) w).2.1
        rw [q] at this
        omega
      · have := t5 w
        rw [q] at this
        omega
    omega
theorem RG.first {so T C O dep : Nat → Nat} {n a b d : Nat} (h : SF so T C O dep n) (hr : RG so C O dep a b d) (hb : b ≤ n) (hab : a < b) (ho : so a = 2) : RG so C O dep (a + 1) (T a) (d + 1) := by
  obtain ⟨b1, b2, b3, b4, b5, b6, b7, b8⟩ := h.1 a (by omega) (Or.inl ho)
  have hd := (hr.1 a (by omega) hab (Or.inl ho)).2
  have hc := (hr.1 a (by omega) hab (Or.inl ho)).1
  refine ⟨fun j h1 h2 h3 => ?_, fun j h1 h2 h3 => ?_⟩
  · have := b8 j (by omega) (by omega) h3
    have k1 := this.1 (by omega)
    have k2 := this.2 h2
    omega
  · have h4 := hr.2 j (by omega) (by omega) h3
    obtain ⟨t1, t2, t3, t4, t5⟩ := h.t4 (c := j) (by omega) h3
    have n1 : O j ≠ a := fun q => by
      rcases h3 with w | w
      · have := (t4 w).1
        rw [q] at this
        omega
      · have := t5 w
        rw [q] at this
        omega
    omega
theorem RG.second {so T C O dep : Nat → Nat} {n a b d : Nat} (h : SF so T C O dep n) (hr : RG so C O dep a b d) (hb : b ≤ n) (hab : a < b) (ho : so a = 2) (ht : T a ≠ C a) : RG so C O dep (T a + 1) (C a) (d + 1) := by
  obtain ⟨b1, b2, b3, b4, b5, b6, b7, b8⟩ := h.1 a (by omega) (Or.inl ho)
  have hd := (hr.1 a (by omega) hab (Or.inl ho)).2
  have hc := (hr.1 a (by omega) hab (Or.inl ho)).1
  obtain ⟨-, b9, b10⟩ := b7 ht
  refine ⟨fun j h1 h2 h3 => ?_, fun j h1 h2 h3 => ?_⟩
  · have := (b8 j (by omega) (by omega) h3).1 h2
    omega
  · have h4 := hr.2 j (by omega) (by omega) h3
    obtain ⟨t1, t2, t3, t4, t5⟩ := h.t4 (c := j) (by omega) h3
    have n1 : O j ≠ a := fun q => by
      rcases h3 with w | w
      · have := (t4 w).1
        rw [q] at this
        omega
      · have := t5 w
        rw [q] at this
        omega
    have n2 : O j ≠ T a := fun q => by rw [q] at t2; rcases t2 with t2 | t2 <;> omega
    have n3 : ¬ O j < T a := fun q => by
      have := (b8 (O j) (by omega) (by omega) t2).2 q
      omega
    omega
