/-! what is open, what is closed: numbers alone -/
def un (f : Nat → Nat) (j v : Nat) : Nat → Nat := fun q => if q = j then v else f q
theorem un_at (f : Nat → Nat) (j v : Nat) : un f j v j = v := if_pos rfl
theorem un_ne {f : Nat → Nat} {j v q : Nat} (h : q ≠ j) : un f j v q = f q := if_neg h
abbrev opn (so : Nat → Nat) (j : Nat) : Prop := so j = 2 ∨ so j = 3
/-- of each opener that stands before i -/
def SJ (so T C O dep st : Nat → Nat) (i k j : Nat) : Prop := dep j ≤ 5 ∧ (C j = j → ∃ a, a < k ∧ st a = j) ∧ (C j ≠ j → j < T j ∧ T j ≤ C j ∧ C j < i ∧ so (C j) = 5 ∧ O (C j) = j) ∧ (T j ≠ j → T j ≠ C j → so j = 2 ∧ j < T j ∧ T j < i ∧ so (T j) = 4 ∧ O (T j) = j) ∧ ∀ l, j < l → l < i → opn so l → (C j ≠ j → l < C j → C l ≠ l ∧ C l < C j) ∧ (T j ≠ j → l < T j → C l ≠ l ∧ C l < T j) ∧ ((C j = j ∨ l < C j) → dep j < dep l)
def SI (so T C O dep st : Nat → Nat) (i k : Nat) : Prop := k ≤ 6 ∧ (∀ a, a < k → st a < i ∧ opn so (st a) ∧ C (st a) = st a ∧ dep (st a) = a) ∧ (∀ a b, a < b → b < k → st a < st b) ∧ (∀ j, j < i → opn so j → SJ so T C O dep st i k j) ∧ (∀ c, c < i → so c = 5 → O c < c ∧ opn so (O c) ∧ C (O c) = c) ∧ (∀ c, c < i → so c = 4 → O c < c ∧ so (O c) = 2 ∧ T (O c) = c ∧ C (O c) ≠ c) ∧ (∀ j, i ≤ j → T j = j ∧ C j = j) ∧ ∀ j, ¬ opn so j → C j = j
theorem SI.start (so : Nat → Nat) : SI so id id id id id 0 0 := ⟨by omega, fun a h => by omega, fun a b _ h => by omega, fun j h => by omega, fun j h => by omega, fun j h => by omega, fun j _ => ⟨rfl, rfl⟩, fun j _ => rfl⟩
theorem SI.plain {so T C O dep st : Nat → Nat} {i k : Nat} (h : SI so T C O dep st i k) (h1 : ¬ so i = 2) (h2 : ¬ so i = 3) (h3 : ¬ so i = 4) (h4 : ¬ so i = 5) : SI so T C O dep st (i + 1) k := by
  obtain ⟨a1, a2, a3, a4, a5, a6, a7, a8⟩ := h
  refine ⟨a1, fun a ha => ?_, a3, fun j hj ho => ?_, fun c hc hs => ?_, fun c hc hs => ?_, fun j hj => a7 j (by omega), a8⟩
  · have := a2 a ha
    exact ⟨by omega, this.2⟩
  · have hji : j ≠ i := fun q => by rw [q] at ho; rcases ho with ho | ho; exact h1 ho; exact h2 ho
    obtain ⟨b1, b2, b3, b4, b5⟩ := a4 j (by omega) ho
    refine ⟨b1, b2, fun q => ?_, fun q q2 => ?_, fun l l1 l2 l3 => ?_⟩
    · have := b3 q; exact ⟨this.1, this.2.1, by omega, this.2.2.2⟩
    · have := b4 q q2; exact ⟨this.1, this.2.1, by omega, this.2.2.2⟩
    · have hli : l ≠ i := fun q => by rw [q] at l3; rcases l3 with l3 | l3; exact h1 l3; exact h2 l3
      exact b5 l l1 (by omega) l3
  · have hci : c ≠ i := fun q => by rw [q] at hs; exact h4 hs
    exact a5 c (by omega) hs
  · have hci : c ≠ i := fun q => by rw [q] at hs; exact h3 hs
    exact a6 c (by omega) hs
theorem SI.opens {so T C O dep st : Nat → Nat} {i k : Nat} (h : SI so T C O dep st i k) (ho : opn so i) (hk : k < 6) : SI so T C O (un dep i k) (un st k i) (i + 1) (k + 1) := by
  obtain ⟨a1, a2, a3, a4, a5, a6, a7, a8⟩ := h
  have hsi : so i ≠ 4 ∧ so i ≠ 5 := by rcases ho with ho | ho <;> omega
  refine ⟨by omega, fun a ha => ?_, fun a b hab hb => ?_, fun j hj hoj => ?_, fun c hc hs => ?_, fun c hc hs => ?_, fun j hj => a7 j (by omega), a8⟩
  · by_cases hak : a = k
    · subst hak
      rw [un_at, un_at]
      exact ⟨by omega, ho, (a7 i (by omega)).2, rfl⟩
    · have := a2 a (by omega)
      rw [un_ne hak, un_ne (show st a ≠ i by omega)]
      exact ⟨by omega, this.2⟩
  · rw [un_ne (show a ≠ k by omega)]
    have := (a2 a (by omega)).1
    by_cases hbk : b = k
    · subst hbk
      rw [un_at]
      exact this
    · rw [un_ne hbk]
      exact a3 a b hab (by omega)
  · by_cases hji : j = i
    · subst hji
      refine ⟨by rw [un_at]; omega, fun _ => ⟨k, by omega, un_at ..⟩, fun q => absurd (a7 j (by omega)).2 q, fun q => absurd (a7 j (by omega)).1 q, fun l l1 l2 => by omega⟩
    · obtain ⟨b1, b2, b3, b4, b5⟩ := a4 j (by omega) hoj
      refine ⟨by rw [un_ne hji]; exact b1, fun q => ?_, fun q => ?_, fun q q2 => ?_, fun l l1 l2 l3 => ?_⟩
      · obtain ⟨a, ha, e⟩ := b2 q
        exact ⟨a, by omega, by rw [un_ne (show a ≠ k by omega)]; exact e⟩
      · have := b3 q; exact ⟨this.1, this.2.1, by omega, this.2.2.2⟩
      · have := b4 q q2; exact ⟨this.1, this.2.1, by omega, this.2.2.2⟩
      · by_cases hli : l = i
        · subst hli
          refine ⟨fun q q2 => ?_, fun q q2 => ?_, fun q => ?_⟩
          · have := b3 q; omega
          · by_cases q3 : T j = C j
            · have := b3 (by omega); omega
            · have := b4 q q3; omega
          · rw [un_at, un_ne hji]
            rcases q with q | q
            · obtain ⟨a, ha, e⟩ := b2 q
              have := (a2 a ha).2.2.2
              rw [e] at this
              omega
            · by_cases q3 : C j = j
              · omega
              · have := b3 q3; omega
        · rw [un_ne hli, un_ne hji]
          exact b5 l l1 (by omega) l3
  · have hci : c ≠ i := fun q => by rw [q] at hs; exact hsi.2 hs
    exact a5 c (by omega) hs
  · have hci : c ≠ i := fun q => by rw [q] at hs; exact hsi.1 hs
    exact a6 c (by omega) hs
/-- behind the last that is open, all is closed -/
theorem SI.shut {so T C O dep st : Nat → Nat} {i k : Nat} (h : SI so T C O dep st i (k + 1)) {l : Nat} (h1 : st k < l) (h2 : l < i) (h3 : opn so l) : C l ≠ l ∧ C l < i := by
  obtain ⟨a1, a2, a3, a4, a5, a6, a7, a8⟩ := h
  obtain ⟨b1, b2, b3, b4, b5⟩ := a4 l h2 h3
  have q : C l ≠ l := fun q => by
    obtain ⟨a, ha, e⟩ := b2 q
    by_cases hak : a = k
    · subst hak; omega
    · have := a3 a k (by omega) (by omega)
      omega
  exact ⟨q, (b3 q).2.2.1⟩
theorem SI.turn {so T C O dep st : Nat → Nat} {i k : Nat} (h : SI so T C O dep st i (k + 1)) (hi : so i = 4) (h2 : so (st k) = 2) (hT : T (st k) = st k) : SI so (un T (st k) i) C (un O i (st k)) dep st (i + 1) (k + 1) := by
  have hsh := fun l h1 h2 h3 => SI.shut h (l := l) h1 h2 h3
  obtain ⟨a1, a2, a3, a4, a5, a6, a7, a8⟩ := h
  obtain ⟨t1, t2, t3, t4⟩ := a2 k (by omega)
  have hne : ∀ c, c < i → so c = 5 → O c ≠ st k := fun c hc hs q => by
    have := a5 c hc hs
    rw [q, t3] at this
    omega
  refine ⟨a1, fun a ha => ?_, a3, fun j hj hoj => ?_, fun c hc hs => ?_, fun c hc hs => ?_, fun j hj => ?_, a8⟩
  · have := a2 a ha
    exact ⟨by omega, this.2⟩
  · have hji : j ≠ i := fun q => by rw [q] at hoj; rcases hoj with q2 | q2 <;> omega
    obtain ⟨b1, b2, b3, b4, b5⟩ := a4 j (by omega) hoj
    by_cases hjt : j = st k
    · refine ⟨b1, b2, fun q => absurd (hjt ▸ t3) q, fun q q2 => ?_, fun l l1 l2 l3 => ?_⟩
      · rw [hjt, un_at]
        exact ⟨h2, t1, by omega, hi, un_at ..⟩
      · have hli : l ≠ i := fun q => by rw [q] at l3; rcases l3 with q2 | q2 <;> omega
        refine ⟨(b5 l l1 (by omega) l3).1, fun q q2 => ?_, (b5 l l1 (by omega) l3).2.2⟩
        rw [hjt, un_at] at q2 ⊢
        exact hsh l (by omega) q2 l3
    · rw [show SJ so (un T (st k) i) C (un O i (st k)) dep st (i + 1) (k + 1) j = (dep j ≤ 5 ∧ (C j = j → ∃ a, a < k + 1 ∧ st a = j) ∧ (C j ≠ j → j < un T (st k) i j ∧ un T (st k) i j ≤ C j ∧ C j < i + 1 ∧ so (C j) = 5 ∧ un O i (st k) (C j) = j) ∧ (un T (st k) i j ≠ j → un T (st k) i j ≠ C j → so j = 2 ∧ j < un T (st k) i j ∧ un T (st k) i j < i + 1 ∧ so (un T (st k) i j) = 4 ∧ un O i (st k) (un T (st k) i j) = j) ∧ ∀ l, j < l → l < i + 1 → opn so l → (C j ≠ j → l < C j → C l ≠ l ∧ C l < C j) ∧ (un T (st k) i j ≠ j → l < un T (st k) i j → C l ≠ l ∧ C l < un T (st k) i j) ∧ ((C j = j ∨ l < C j) → dep j < dep l)) from rfl, un_ne hjt]
      refine ⟨b1, b2, fun q => ?_, fun q q2 => ?_, fun l l1 l2 l3 => ?_⟩
      · have := b3 q
        rw [un_ne (show C j ≠ i by omega)]
        exact ⟨this.1, this.2.1, by omega, this.2.2.2⟩
      · have := b4 q q2
        rw [un_ne (show T j ≠ i by omega)]
        exact ⟨this.1, this.2.1, by omega, this.2.2.2⟩
      · have hli : l ≠ i := fun q => by rw [q] at l3; rcases l3 with q2 | q2 <;> omega
        exact b5 l l1 (by omega) l3
  · have hci : c ≠ i := fun q => by rw [q] at hs; omega
    rw [un_ne hci]
    exact a5 c (by omega) hs
  · by_cases hci : c = i
    · subst hci
      rw [un_at, un_at]
      exact ⟨t1, h2, rfl, by omega⟩
    · rw [un_ne hci]
      have := a6 c (by omega) hs
      refine ⟨this.1, this.2.1, ?_, this.2.2.2⟩
      rw [un_ne (fun q => by rw [q, hT] at this; omega)]
      exact this.2.2.1
  · rw [un_ne (show j ≠ st k by omega)]
    exact a7 j (by omega)
theorem SI.close {so T C O dep st : Nat → Nat} {i k : Nat} (h : SI so T C O dep st i (k + 1)) (hi : so i = 5) : SI so (if T (st k) = st k then un T (st k) i else T) (un C (st k) i) (un O i (st k)) dep st (i + 1) k := by
  have hsh := fun l h1 h2 h3 => SI.shut h (l := l) h1 h2 h3
  obtain ⟨a1, a2, a3, a4, a5, a6, a7, a8⟩ := h
  obtain ⟨t1, t2, t3, t4⟩ := a2 k (by omega)
  obtain ⟨s1, s2, s3, s4, s5⟩ := a4 (st k) t1 t2
  have hT1 : ∀ j, j ≠ st k → (if T (st k) = st k then un T (st k) i else T) j = T j := fun j hj => by
    split
    · exact un_ne hj
    · rfl
  have hT2 : st k < (if T (st k) = st k then un T (st k) i else T) (st k) ∧ (if T (st k) = st k then un T (st k) i else T) (st k) ≤ i := by
    by_cases q : T (st k) = st k
    · rw [if_pos q, un_at]
      omega
    · rw [if_neg q]
      have := s4 q (by omega)
      omega
  have hT3 : (if T (st k) = st k then un T (st k) i else T) (st k) ≠ i → T (st k) ≠ st k ∧ (if T (st k) = st k then un T (st k) i else T) (st k) = T (st k) := fun q => by
    by_cases q2 : T (st k) = st k
    · rw [if_pos q2, un_at] at q
      exact absurd rfl q
    · rw [if_neg q2]
      exact ⟨q2, rfl⟩
  have hT4 : T (st k) ≠ st k → (if T (st k) = st k then un T (st k) i else T) (st k) = T (st k) := fun q => by rw [if_neg q]
  generalize (if T (st k) = st k then un T (st k) i else T) = T' at *
  have dj : ∀ j, j < i → opn so j → j ≠ st k → (C j ≠ j → st k < C j → st k < j) := fun j hj ho hn q q2 => by
    by_cases q3 : j < st k
    · have := ((a4 j hj ho).2.2.2.2 (st k) q3 t1 t2).1 q q2
      exact absurd t3 this.1
    · omega
  refine ⟨by omega, fun a ha => ?_, fun a b hab hb => a3 a b hab (by omega), fun j hj hoj => ?_, fun c hc hs => ?_, fun c hc hs => ?_, fun j hj => ?_, fun j hj => ?_⟩
  · have := a2 a (by omega)
    have h3 := a3 a k ha (by omega)
    rw [un_ne (show st a ≠ st k by omega)]
    exact ⟨by omega, this.2⟩
  · have hji : j ≠ i := fun q => by rw [q] at hoj; rcases hoj with q2 | q2 <;> omega
    by_cases hjt : j = st k
    · subst hjt
      refine ⟨s1, fun q => ?_, fun q => ?_, fun q q2 => ?_, fun l l1 l2 l3 => ?_⟩
      · rw [un_at] at q; omega
      · rw [un_at, un_at]
        exact ⟨hT2.1, hT2.2, by omega, hi, rfl⟩
      · rw [un_at] at q2
        obtain ⟨q3, q4⟩ := hT3 q2
        have := s4 q3 (by omega)
        rw [q4, un_ne (show T (st k) ≠ i by omega)]
        exact ⟨this.1, this.2.1, by omega, this.2.2.2⟩
      · have hli : l ≠ i := fun q => by rw [q] at l3; rcases l3 with q2 | q2 <;> omega
        have b5 := s5 l l1 (by omega) l3
        have sh := hsh l l1 (by omega) l3
        rw [un_at, un_ne (show l ≠ st k by omega)]
        refine ⟨fun _ _ => sh, fun q q2 => ?_, fun _ => b5.2.2 (Or.inl t3)⟩
        by_cases q3 : T' (st k) = i
        · rw [q3]; exact sh
        · obtain ⟨q4, q5⟩ := hT3 q3
          rw [q5] at q2 ⊢
          exact b5.2.1 q4 q2
    · obtain ⟨b1, b2, b3, b4, b5⟩ := a4 j (by omega) hoj
      refine ⟨b1, fun q => ?_, fun q => ?_, fun q q2 => ?_, fun l l1 l2 l3 => ?_⟩
      · rw [un_ne hjt] at q
        obtain ⟨a, ha, e⟩ := b2 q
        exact ⟨a, by have : a ≠ k := fun q2 => hjt (by rw [← e, q2]); omega, e⟩
      · rw [un_ne hjt] at q ⊢
        rw [hT1 j hjt]
        have := b3 q
        rw [un_ne (show C j ≠ i by omega)]
        exact ⟨this.1, this.2.1, by omega, this.2.2.2⟩
      · rw [hT1 j hjt] at q q2 ⊢
        rw [un_ne hjt] at q2
        have := b4 q q2
        rw [un_ne (show T j ≠ i by omega)]
        exact ⟨this.1, this.2.1, by omega, this.2.2.2⟩
      · have hli : l ≠ i := fun q => by rw [q] at l3; rcases l3 with q2 | q2 <;> omega
        have b6 := b5 l l1 (by omega) l3
        rw [hT1 j hjt, un_ne hjt]
        by_cases hlt : l = st k
        · subst hlt
          rw [un_at]
          refine ⟨fun q q2 => ?_, fun q q2 => ?_, b6.2.2⟩
          · exact absurd t3 (b6.1 q q2).1
          · exact absurd t3 (b6.2.1 q q2).1
        · rw [un_ne hlt]
          exact b6
  · by_cases hci : c = i
    · subst hci
      rw [un_at, un_at]
      exact ⟨t1, t2, rfl⟩
    · rw [un_ne hci]
      have := a5 c (by omega) hs
      refine ⟨this.1, this.2.1, ?_⟩
      rw [un_ne (fun q => by rw [q, t3] at this; omega)]
      exact this.2.2
  · have hci : c ≠ i := fun q => by rw [q] at hs; omega
    rw [un_ne hci]
    have := a6 c (by omega) hs
    refine ⟨this.1, this.2.1, ?_, ?_⟩
    · by_cases q : O c = st k
      · rw [q] at this ⊢
        rw [hT4 (fun q2 => by rw [this.2.2.1] at q2; rw [q2] at hs; rcases t2 with q3 | q3 <;> omega)]
        exact this.2.2.1
      · rw [hT1 _ q]; exact this.2.2.1
    · by_cases q : O c = st k
      · rw [q, un_at]; omega
      · rw [un_ne q]; exact this.2.2.2
  · rw [hT1 j (by omega), un_ne (show j ≠ st k by omega)]
    exact a7 j (by omega)
  · by_cases q : j = st k
    · rw [q] at hj; exact absurd t2 hj
    · rw [un_ne q]; exact a8 j hj
