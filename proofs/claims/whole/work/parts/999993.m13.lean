/-! pieces: tags, text; the whole of them -/
theorem nn {P : Prop} (h : P) : ¬ ¬ P := fun q => q h
theorem p_kind {x : qt5} {s : hs} {n : Nat} {g : Nat → Int32} (h : CH x s n g) (c : qt1) {i b : Nat} (hi : i ≤ 1000) (hb : i < b) (hb' : b ≤ 1300) (hN : ¬ Nm (g b)) : wp3_kindOf x (Int32.ofNat i) (Int32.ofNat b) ∧ wp10_kindOf (hk s c) (Int32.ofNat i) (Int32.ofNat (b - i)) ∧ ∃ k : Nat, k ≤ 3 ∧ fn3_kindOf x (Int32.ofNat i) (Int32.ofNat b) = Int32.ofNat k ∧ fn10_kindOf (hk s c) (Int32.ofNat i) (Int32.ofNat (b - i)) = Int32.ofNat k := by
  have hle : Int32.ofNat (b - i) ≤ 1 ↔ b = i + 1 := by
    rw [show (1 : Int32) = Int32.ofNat 1 from rfl, q_le (by omega) (by omega)]
    omega
  refine ⟨?_, ?_, ?_⟩
  · unfold wp3_kindOf
    simp (disch := omega) only [q_2, h.ws4, h.ws5, h.ws6, h.ws2, h.ws7, implies_true, and_self, true_and, and_true]
  · unfold wp10_kindOf wp10_kindOf_c67 wp10_kindOf_c72
    simp (disch := omega) only [q_1, h.wch, h.wisStyle, fun m w e1 e2 e3 e4 e5 e6 => (h.rsp c (show i ≤ 5000 by omega) m w e1 e2 e3 e4 e5 e6).1, implies_true, and_self, true_and, and_true]
  · rw [fq3_kindOf, fq10_kindOf]
    unfold fn10_kindOf_c67 fn10_kindOf_c72
    simp (disch := omega) only [q_1, q_2, h.sp4, h.sp5, h.sp6, h.sp2, h.sp7, h.ch, h.isStyle, h.href, h.src, h.action, hle, Nat.add_zero, true_and, if_true, show ¬ (1 : Int32) = 0 by decide, if_false, show ∀ m, (b - i = m ↔ b = i + m) from fun m => by omega]
    by_cases k1 : b = i + 4 ∧ g i = 104 ∧ g (i + 1) = 114 ∧ g (i + 2) = 101 ∧ g (i + 3) = 102
    · simp only [if_neg (nn k1)]
      exact ⟨1, by omega, rfl, rfl⟩
    · by_cases k2 : b = i + 3 ∧ g i = 115 ∧ g (i + 1) = 114 ∧ g (i + 2) = 99
      · simp only [if_pos k1, if_neg (nn k2)]
        exact ⟨1, by omega, rfl, rfl⟩
      · by_cases k3 : b = i + 6 ∧ g i = 97 ∧ g (i + 1) = 99 ∧ g (i + 2) = 116 ∧ g (i + 3) = 105 ∧ g (i + 4) = 111 ∧ g (i + 5) = 110
        · simp only [if_pos k1, if_pos k2, if_neg (nn k3)]
          exact ⟨1, by omega, rfl, rfl⟩
        · simp only [if_pos k1, if_pos k2, if_pos k3]
          by_cases k4 : b = i + 5 ∧ g i = 115 ∧ g (i + 1) = 116 ∧ g (i + 2) = 121 ∧ g (i + 3) = 108 ∧ g (i + 4) = 101
          · simp only [if_neg (nn k4)]
            exact ⟨3, by omega, rfl, rfl⟩
          · simp only [if_pos k4]
            by_cases k5 : g i = 111 ∧ g (i + 1) = 110
            · have k6 : ¬ b = i + 1 := fun q => by
                rw [q] at hN
                exact hN (Or.inl (by rw [k5.2]; decide))
              simp only [if_neg (nn k5), if_neg k6, if_pos k5.1, if_pos k5.2]
              exact ⟨2, by omega, rfl, rfl⟩
            · refine ⟨0, by omega, by simp only [if_pos k5]; rfl, ?_⟩
              by_cases k6 : b = i + 1
              · simp only [if_pos k6]; rfl
              · by_cases k7 : g i = 111
                · simp only [if_neg k6, if_pos k7, if_neg (fun q => k5 ⟨k7, q⟩)]; rfl
                · simp only [if_neg k6, if_neg k7]; rfl
theorem CX.val {c : qt1} (h : CX c) {k : Nat} (hk' : k ≤ 3) {q : Int32} (hq : q = 34 ∨ q = 39) : CX (fn1_enterValue c q (Int32.ofNat k)) ∧ fn1_enterValue c q (Int32.ofNat k) = qu1_part (qu1_quote (qu1_kind (qu1_name c 2) (Int32.ofNat k)) q) 0 := by
  obtain ⟨a, e, k', p, q', h1, h2, h3, h4, h5, rfl⟩ := h
  rw [fq1_enterValue]
  exact ⟨⟨2, e, k, 0, q, by omega, h2, hk', by omega, Or.inr hq, rfl⟩, rfl⟩
theorem q_sub1 {a b : Nat} (h : b ≤ a) : Int32.ofNat a - Int32.ofNat b = Int32.ofNat (a - b) := q_sub h
theorem p_attr {x : qt5} {s : hs} {n : Nat} {g : Nat → Int32} (h : CH x s n g) {c : qt1} (hX : CX c) {i : Nat} (hi : i ≤ 240) (h0 : g i ≠ 0) (hL : 97 ≤ g i ∧ g i ≤ 122) : PP s g i (wp3_attribute x c (Int32.ofNat i)) (wp10_attribute (hk s c) (Int32.ofNat i)) (fn3_attribute x c (Int32.ofNat i)) (fn10_attribute (hk s c) (Int32.ofNat i)) := by
  obtain ⟨b, b1, b2, b3, b4, b5, b6, b7⟩ := h.name (show i ≤ 1000 by omega) hL
  obtain ⟨d, d1, d2, d3, d4, d5, d6, d7⟩ := h.blanks (show b ≤ 1000 by omega)
  obtain ⟨f, f1, f2, f3, f4, f5, f6, f7⟩ := h.blanks (show d + 1 ≤ 1000 by omega)
  obtain ⟨v1, v2, k, k0, k1, k2⟩ := p_kind h (qu1_name c 2) (show i ≤ 1000 by omega) b1 (show b ≤ 1300 by omega) b4
  have nz : ∀ v : Int32, Nm v → v ≠ 0 := fun v q => by intro e; rw [e] at q; revert q; decide
  have nb : ∀ v : Int32, Bl v → v ≠ 0 := fun v q => by intro e; rw [e] at q; revert q; decide
  have z1 : ∀ j, i ≤ j → j < d → g j ≠ 0 := fun j j1 j2 => by
    by_cases q : j < b
    · exact nz _ (b3 j j1 q)
    · exact nb _ (d3 j (by omega) j2)
  have a1 : i + (b - i) = b := by omega
  have a2 : b + (d - b) = d := by omega
  have a3 : d + 1 + (f - (d + 1)) = f := by omega
  have hlt : 0 < Int32.ofNat (d - b) ↔ b < d := by
    rw [show (0 : Int32) = Int32.ofNat 0 from rfl, q_lt (by omega) (by omega)]
    omega
  have hlt2 : Int32.ofNat b < Int32.ofNat d ↔ b < d := q_lt (by omega) (by omega)
  have fitf : am_fit .char (.inl (g f)) = true := q_fit (h.b f).1 (h.b f).2
  refine ⟨?_, ?_, ?_⟩
  · unfold wp3_attribute wp4_isQuote wp1_enterValue wp1_enterValue_c5 wp1_enterValue_c10 wp1_enterValue_c15
    simp (disch := omega) only [b6, d6, q_1, f6, b5, d5, f5, v1, h.sign, h.wsign, fitf, implies_true, and_self, true_and, and_true]
  · refine (b7 c).1 ?_
    unfold wp10_attribute_c37 wp10_attribute_c137 wp10_attribute_c142 wp10_attribute_c152 wp10_attribute_c162 wp10_attribute_c89
    simp (disch := omega) only [q_add, a1, a2, q_1, (d7 c).1, (d7 c).2, (f7 c).1, (f7 c).2, a3, hk_name, hk_kind, v2, k2, h.ch, h.wch, fitf, implies_true, and_self, true_and, and_true]
  · rw [(b7 c).2, fq3_attribute]
    unfold fn10_attribute_c37 fn10_attribute_c137 fn10_attribute_c142 fn10_attribute_c152 fn10_attribute_c162 fn10_attribute_c89
    simp (disch := omega) only [b6, d6, q_1, f6, q_add, a1, a2, (d7 c).2, (f7 c).2, a3, hk_name, hk_kind, hk_quote, hk_part, k1, k2, h.ch, h.sign, iq4, q_sub, hlt, hlt2]
    by_cases e1 : g d = 61
    · simp only [if_pos e1]
      by_cases e2 : g f = 34 ∨ g f = 39
      · obtain ⟨c1, c2⟩ := hX.val k0 e2
        have R : PO s g i (Int32.ofNat (f + 1 - i), fn1_enterValue c (g f) (Int32.ofNat k)) (Int32.ofNat (f + 1 - i), hk s (qu1_part (qu1_quote (qu1_kind (qu1_name c 2) (Int32.ofNat k)) (g f)) 0)) := by
          rw [← c2]
          refine po (f + 1 - i) c1 (by omega) (fun j hj => ?_)
          by_cases j1 : i + j < d
          · exact z1 _ (by omega) j1
          · by_cases j2 : i + j = d
            · rw [j2]; exact ne0 e1 (by decide)
            · by_cases j3 : i + j = f
              · rw [j3]
                rcases e2 with e2 | e2
                · exact ne0 e2 (by decide)
                · exact ne0 e2 (by decide)
              · exact nb _ (f3 _ (by omega) (by omega))
        simp only [if_neg (nn e2)]
        by_cases e3 : g f = 34
        · simp only [if_pos e3]
          exact R
        · simp only [if_neg e3, if_pos (e2.resolve_left e3)]
          exact R
      · have e3 : ¬ g f = 34 := fun q => e2 (Or.inl q)
        have e4 : ¬ g f = 39 := fun q => e2 (Or.inr q)
        simp only [if_pos e2, if_neg e3, if_neg e4]
        exact po0 hX
    · simp only [if_neg e1]
      have R : PO s g i (Int32.ofNat (d - i), c) (Int32.ofNat (d - i), hk s c) := po (d - i) hX (by omega) (fun j hj => z1 _ (by omega) (by omega))
      by_cases e2 : b < d
      · simp only [if_pos e2]
        exact R
      · by_cases e3 : g d = 47
        · simp only [if_neg e2, if_pos e3]
          exact R
        · by_cases e4 : g d = 62
          · simp only [if_neg e2, if_neg e3, if_pos e4]
            exact R
          · simp only [if_neg e2, if_neg e3, if_neg e4]
            exact po0 hX
theorem p_tag {x : qt5} {s : hs} {n : Nat} {g : Nat → Int32} (h : CH x s n g) {c : qt1} (hX : CX c) {i : Nat} (hi : i ≤ 240) (h0 : g i ≠ 0) : PP s g i (wp3_inTag x c (Int32.ofNat i)) (wp10_tagPiece (hk s c) (Int32.ofNat i)) (fn3_inTag x c (Int32.ofNat i)) (fn10_tagPiece (hk s c) (Int32.ofNat i)) := by
  by_cases hL : 97 ≤ g i ∧ g i ≤ 122
  · have hA := p_attr h hX hi h0 hL
    have n1 : ¬ g i = 32 := fun q => by rw [q] at hL; revert hL; decide
    have n2 : ¬ g i = 10 := fun q => by rw [q] at hL; revert hL; decide
    have n3 : ¬ g i = 62 := fun q => by rw [q] at hL; revert hL; decide
    have n4 : ¬ g i = 47 := fun q => by rw [q] at hL; revert hL; decide
    have n5 : ¬ (g i = 32 ∨ g i = 10) := fun q => by rcases q with q | q; exact n1 q; exact n2 q
    refine ⟨?_, ?_, ?_⟩
    · unfold wp3_inTag wp3_inTag_c59 wp4_isBlank wp4_isLetter wp1_enterElement
      simp (disch := omega) only [q_1, h.wsign, h.sign, hA.1, w_en, implies_true, and_self, true_and, and_true]
    · unfold wp10_tagPiece wp10_tagPiece_c59 wp10_tagPiece_c93 wp10_tagPiece_c94 wp10_tagPiece_c104 wp10_isBlank wp10_isLetter
      simp (disch := omega) only [q_1, h.wch, hA.2.1, w_go, implies_true, and_self, true_and, and_true]
    · rw [fq3_inTag, fq10_tagPiece]
      unfold fn3_inTag_c59
      simp (disch := omega) only [q_1, h.sign, h.ch, ib4, ib10, il4, il10, if_pos n5, if_neg n3, if_neg n4, if_neg (nn hL)]
      exact hA.2.2
  · refine ⟨?_, ?_, ?_⟩
    · unfold wp3_inTag wp3_inTag_c59 wp4_isBlank wp4_isLetter wp1_enterElement
      simp (disch := omega) only [q_1, h.wsign, h.sign, il4, hL, w_en, implies_true, and_self, true_and, and_true, not_false_eq_true, not_true_eq_false, false_implies]
    · unfold wp10_tagPiece wp10_tagPiece_c59 wp10_tagPiece_c93 wp10_tagPiece_c94 wp10_tagPiece_c104 wp10_isBlank wp10_isLetter
      simp (disch := omega) only [q_1, h.wch, h.ch, il10, hL, w_go, implies_true, and_self, true_and, and_true, not_false_eq_true, not_true_eq_false, false_implies]
    · rw [fq3_inTag, fq10_tagPiece]
      unfold fn3_inTag_c59 fn10_tagPiece_c59 fn10_tagPiece_c93 fn10_tagPiece_c94 fn10_tagPiece_c104
      simp (disch := omega) only [q_1, h.sign, h.ch, ib4, ib10, il4, il10, if_pos hL, hk_melement, hk_go, if_true, show ¬ (1 : Int32) = 0 by decide, show ¬ (2 : Int32) = 0 by decide, if_false]
      by_cases k1 : g i = 32 ∨ g i = 10
      · simp only [if_neg (nn k1)]
        exact po1 h0 hX
      · simp only [if_pos k1]
        by_cases k2 : g i = 62
        · simp only [if_pos k2]
          rw [fq1_enterElement]
          by_cases m1 : qg1_element c = 1
          · simp only [if_pos m1]
            exact po1 h0 (CX.e3 c)
          · by_cases m2 : qg1_element c = 2
            · simp only [if_neg m1, if_pos m2]
              exact po1 h0 (CX.e4 c)
            · by_cases m3 : qg1_element c = 3
              · simp only [if_neg m1, if_neg m2, if_pos m3]
                exact po1 h0 (CX.e5 c)
              · simp only [if_neg m1, if_neg m2, if_neg m3]
                exact po1 h0 (CX.e0 c)
        · simp only [if_neg k2]
          by_cases k3 : g i = 47
          · simp only [if_pos k3]
            by_cases k4 : g (i + 1) = 62
            · simp only [if_pos k4]
              by_cases k5 : qg1_element c = 0
              · simp only [if_pos k5]
                exact po2 h0 (ne0 k4 (by decide)) (CX.e0 c)
              · simp only [if_neg k5]
                exact po0 hX
            · simp only [if_neg k4]
              exact po0 hX
          · simp only [if_neg k3]
            exact po0 hX
theorem p_elem {x : qt5} {s : hs} {n : Nat} {g : Nat → Int32} (h : CH x s n g) (c : qt1) {i b : Nat} (hi : i ≤ 1000) (hb : i < b) (hb' : b ≤ 1300) : wp3_elementOf x (Int32.ofNat i) (Int32.ofNat b) ∧ ∃ e : Nat, e ≤ 3 ∧ fn3_elementOf x (Int32.ofNat i) (Int32.ofNat b) = Int32.ofNat e ∧ ∀ d : Int32 → Int32 × hs, (if fn10_isScript (hk s c) (Int32.ofNat i) (Int32.ofNat (b - i)) = 0 then (if fn10_isStyle (hk s c) (Int32.ofNat i) (Int32.ofNat (b - i)) = 0 then (if fn10_isTitle (hk s c) (Int32.ofNat i) (Int32.ofNat (b - i)) = 0 then d 0 else d 3) else d 2) else d 1) = d (Int32.ofNat e) := by
  refine ⟨?_, ?_⟩
  · unfold wp3_elementOf
    simp (disch := omega) only [h.ws1, h.ws2, h.ws3, implies_true, and_self, true_and, and_true]
  · rw [fq3_elementOf]
    simp (disch := omega) only [h.sp1, h.sp2, h.sp3, h.isScript, h.isStyle, h.isTitle, Nat.add_zero, show ∀ m, (b - i = m ↔ b = i + m) from fun m => by omega]
    by_cases k1 : b = i + 6 ∧ g i = 115 ∧ g (i + 1) = 99 ∧ g (i + 2) = 114 ∧ g (i + 3) = 105 ∧ g (i + 4) = 112 ∧ g (i + 5) = 116
    · simp only [if_neg (nn k1)]
      exact ⟨1, by omega, rfl, fun d => rfl⟩
    · by_cases k2 : b = i + 5 ∧ g i = 115 ∧ g (i + 1) = 116 ∧ g (i + 2) = 121 ∧ g (i + 3) = 108 ∧ g (i + 4) = 101
      · simp only [if_pos k1, if_neg (nn k2)]
        exact ⟨2, by omega, rfl, fun d => rfl⟩
      · by_cases k3 : b = i + 5 ∧ g i = 116 ∧ g (i + 1) = 105 ∧ g (i + 2) = 116 ∧ g (i + 3) = 108 ∧ g (i + 4) = 101
        · simp only [if_pos k1, if_pos k2, if_neg (nn k3)]
          exact ⟨3, by omega, rfl, fun d => rfl⟩
        · simp only [if_pos k1, if_pos k2, if_pos k3]
          exact ⟨0, by omega, rfl, fun d => rfl⟩
theorem p_text {x : qt5} {s : hs} {n : Nat} {g : Nat → Int32} (h : CH x s n g) {c : qt1} (hX : CX c) {i : Nat} (hi : i ≤ 240) (h0 : g i ≠ 0) : PP s g i (wp3_inText x c (Int32.ofNat i)) (wp10_textPiece (hk s c) (Int32.ofNat i)) (fn3_inText x c (Int32.ofNat i)) (fn10_textPiece (hk s c) (Int32.ofNat i)) := by
  obtain ⟨r, r1, r2, r3, r4⟩ := h.amp (show i ≤ 1000 by omega)
  obtain ⟨b, b1, b2, b3, b4, b5, b6, b7⟩ := h.letters (show i + 1 ≤ 1000 by omega)
  obtain ⟨d, d1, d2, d3, d4, d5, d6, d7⟩ := h.letters (show i + 2 ≤ 1000 by omega)
  have nz : ∀ v : Int32, Le v → v ≠ 0 := fun v q => by intro e; rw [e] at q; revert q; decide
  have a1 : i + 1 + (b - (i + 1)) = b := by omega
  have a2 : i + 2 + (d - (i + 2)) = d := by omega
  have q1 : Int32.ofNat b = Int32.ofNat (i + 1) ↔ b = i + 1 := q_eq (by omega) (by omega)
  have q2 : Int32.ofNat (b - (i + 1)) = 0 ↔ b = i + 1 := by
    rw [show (0 : Int32) = Int32.ofNat 0 from rfl, q_eq (by omega) (by omega)]
    omega
  have q3 : Int32.ofNat d ≤ Int32.ofNat (i + 2) ↔ d = i + 2 := by
    rw [q_le (by omega) (by omega)]
    omega
  have q4 : Int32.ofNat (d - (i + 2)) ≤ 0 ↔ d = i + 2 := by
    rw [show (0 : Int32) = Int32.ofNat 0 from rfl, q_le (by omega) (by omega)]
    omega
  have we : wp3_endTag x (Int32.ofNat i) := by
    unfold wp3_endTag
    simp (disch := omega) only [q_2, d5, d6, h.wsign, implies_true, and_self, true_and, and_true]
  have hel : i + 1 < b → wp3_elementOf x (Int32.ofNat (i + 1)) (Int32.ofNat b) := fun q => (p_elem h c (show i + 1 ≤ 1000 by omega) q (show b ≤ 1300 by omega)).1
  have hel2 : ¬ b = i + 1 → wp3_elementOf x (Int32.ofNat (i + 1)) (Int32.ofNat b) := fun q => hel (by omega)
  have ws : wp3_startTag x c (Int32.ofNat i) := by
    unfold wp3_startTag wp4_isBlank wp1_enterTag
    simp (disch := omega) only [q_1, b5, b6, q1, h.wsign, w_en, implies_true, and_self, true_and, and_true]
    exact fun q => ⟨fun _ => ⟨fun _ => hel2 q, fun _ _ => hel2 q⟩, fun _ => hel2 q⟩
  refine ⟨?_, ?_, ?_⟩
  · unfold wp3_inText
    simp (disch := omega) only [q_1, q_4, h.wsign, h.ws0, r2, we, ws, w_en, implies_true, and_self, true_and, and_true]
  · unfold wp10_textPiece wp10_textPiece_c72 wp10_textPiece_c73 wp10_textPiece_c84 wp10_textPiece_c185 wp10_textPiece_c237 wp10_begins wp10_isBlank
    simp (disch := omega) only [q_1, q_2, q_3, q_add, a1, a2, (b7 c).1, (b7 c).2, (d7 c).1, (d7 c).2, h.wch, w_go, hk_go, h.wisScript, h.wisStyle, h.wisTitle, fun c => (r4 c).1, implies_true, and_self, true_and, and_true]
  · rw [fq3_inText, fq10_textPiece, r3, (r4 c).2]
    by_cases k0 : g i = 38
    · simp (disch := omega) only [h.sign, h.ch, if_pos k0]
      exact po_amp h0 hX r1
    · by_cases k1 : g i = 60
      · simp (disch := omega) only [h.sign, h.ch, if_neg k0, if_pos k1, q_1, q_4, h.sp0, true_and, Nat.add_zero, fq10_begins]
        by_cases k2 : g (i + 1) = 33
        · have hbe : b = i + 1 := by
            by_cases q : b = i + 1
            · exact q
            · have := b3 (i + 1) (by omega) (by omega)
              rw [k2] at this
              exact absurd this (by decide)
          have k47 : ¬ g (i + 1) = 47 := by rw [k2]; decide
          simp only [if_pos k2, show ¬ (1 : Int32) = 0 by decide, if_false]
          unfold fn10_textPiece_c72 fn10_textPiece_c73 fn10_textPiece_c84
          simp (disch := omega) only [q_2, q_3, h.ch, hk_go, if_true, show ¬ (1 : Int32) = 0 by decide, if_false]
          by_cases k3 : g (i + 2) = 45 ∧ g (i + 3) = 45
          · simp only [if_neg (nn (show g i = 60 ∧ g (i + 1) = 33 ∧ g (i + 2) = 45 ∧ g (i + 3) = 45 from ⟨k1, k2, k3⟩)), if_pos k3.1, if_pos k3.2]
            exact po4 h0 (ne0 k2 (by decide)) (ne0 k3.1 (by decide)) (ne0 k3.2 (by decide)) (CX.e6 c)
          · have k4 : ¬ (g i = 60 ∧ g (i + 1) = 33 ∧ g (i + 2) = 45 ∧ g (i + 3) = 45) := fun q => k3 q.2.2
            have e : (if g (i + 2) = 45 then if g (i + 3) = 45 then ((4 : Int32), hk s (fn1_enter c 6)) else (0, hk s c) else (0, hk s c)) = (0, hk s c) := by
              by_cases k5 : g (i + 2) = 45
              · rw [if_pos k5, if_neg (fun q => k3 ⟨k5, q⟩)]
              · rw [if_neg k5]
            rw [e, fq3_startTag]
            simp (disch := omega) only [if_pos k4, if_neg k47, q_1, b6, q1, if_pos hbe]
            exact po0 hX
        · have k4 : ¬ (g i = 60 ∧ g (i + 1) = 33 ∧ g (i + 2) = 45 ∧ g (i + 3) = 45) := fun q => k2 q.2.1
          simp only [if_pos k4, if_neg k2, if_true]
          by_cases k5 : g (i + 1) = 47
          · simp (disch := omega) only [if_pos k5, show ¬ (1 : Int32) = 0 by decide, if_false, fq3_endTag, q_2, (d7 c).2, d6, q3, q4, q_add, a2, h.ch, h.sign, q_1, q_3]
            by_cases k6 : d = i + 2
            · simp only [if_pos k6]
              exact po0 hX
            · simp only [if_neg k6]
              by_cases k7 : g d = 62
              · simp only [if_pos k7]
                rw [q_sub (show i ≤ d + 1 by omega), show d - (i + 2) + 3 = d + 1 - i by omega]
                refine po (d + 1 - i) hX (by omega) (fun j hj => ?_)
                by_cases j1 : j = 0
                · rw [j1]; exact h0
                · by_cases j2 : j = 1
                  · rw [j2]; exact ne0 k5 (by decide)
                  · by_cases j3 : i + j = d
                    · rw [j3]; exact ne0 k7 (by decide)
                    · exact nz _ (d3 _ (by omega) (by omega))
              · simp only [if_neg k7]
                exact po0 hX
          · simp (disch := omega) only [if_neg k5, if_true, fq3_startTag, q_1, (b7 c).2, b6, q1, q2, q_add, a1, h.ch, h.sign, ib4, ib10]
            by_cases k6 : b = i + 1
            · simp only [if_pos k6]
              exact po0 hX
            · simp only [if_neg k6]
              obtain ⟨_, e, e1, e2, e3⟩ := p_elem h (fn1_enter c 1) (show i + 1 ≤ 1000 by omega) (show i + 1 < b by omega) (show b ≤ 1300 by omega)
              have R : PO s g i (Int32.ofNat b - Int32.ofNat i, fn1_enterTag c (Int32.ofNat e)) (fn10_textPiece_c185 (hk s c) (Int32.ofNat i) (Int32.ofNat (b - (i + 1)))) := by
                unfold fn10_textPiece_c185
                rw [hk_go, q_1, e3 (fun v => fn10_textPiece_c237 (hk s (fn1_enter c 1)) (Int32.ofNat (b - (i + 1))) v)]
                unfold fn10_textPiece_c237
                rw [hk_element, q_1, q_sub (show i ≤ b by omega), show b - (i + 1) + 1 = b - i by omega]
                have et : hk s (qu1_element (fn1_enter c 1) (Int32.ofNat e)) = hk s (fn1_enterTag c (Int32.ofNat e)) := by rw [fq1_enterTag]
                rw [et]
                refine po (b - i) (CX.tagv e e1) (by omega) (fun j hj => ?_)
                by_cases j1 : j = 0
                · rw [j1]; exact h0
                · exact nz _ (b3 _ (by omega) (by omega))
              rw [e2]
              by_cases k7 : g b = 32 ∨ g b = 10
              · simp only [if_neg (nn k7)]
                exact R
              · simp only [if_pos k7]
                by_cases k8 : g b = 47
                · simp only [if_pos k8]
                  exact R
                · simp only [if_neg k8]
                  by_cases k9 : g b = 62
                  · simp only [if_pos k9]
                    exact R
                  · simp only [if_neg k9]
                    exact po0 hX
      · simp (disch := omega) only [h.sign, h.ch, if_neg k0, if_neg k1]
        exact po1 h0 hX
theorem p_read {x : qt5} {s : hs} {n : Nat} {g : Nat → Int32} (h : CH x s n g) {c : qt1} (hX : CX c) {i : Nat} (hi : i ≤ 240) (h0 : g i ≠ 0) : PP s g i (wp3_read x c (Int32.ofNat i)) (wp10_piece (hk s c) (Int32.ofNat i)) (fn3_read x c (Int32.ofNat i)) (fn10_piece (hk s c) (Int32.ofNat i)) := by
  have hnm : qg1_name c = 0 ∨ qg1_name c = 1 ∨ qg1_name c = 2 ∨ qg1_name c = 3 ∨ qg1_name c = 4 ∨ qg1_name c = 5 ∨ qg1_name c = 6 := by
    obtain ⟨a, e, k, p, q, h1, h2, h3, h4, h5, rfl⟩ := hX
    show Int32.ofNat a = 0 ∨ Int32.ofNat a = 1 ∨ Int32.ofNat a = 2 ∨ Int32.ofNat a = 3 ∨ Int32.ofNat a = 4 ∨ Int32.ofNat a = 5 ∨ Int32.ofNat a = 6
    match a, h1 with
    | 0, _ => exact Or.inl rfl
    | 1, _ => exact Or.inr (Or.inl rfl)
    | 2, _ => exact Or.inr (Or.inr (Or.inl rfl))
    | 3, _ => exact Or.inr (Or.inr (Or.inr (Or.inl rfl)))
    | 4, _ => exact Or.inr (Or.inr (Or.inr (Or.inr (Or.inl rfl))))
    | 5, _ => exact Or.inr (Or.inr (Or.inr (Or.inr (Or.inr (Or.inl rfl)))))
    | 6, _ => exact Or.inr (Or.inr (Or.inr (Or.inr (Or.inr (Or.inr rfl)))))
  unfold wp3_read wp10_piece wp10_piece_c93
  rw [fq3_read, fq10_piece]
  unfold fn10_piece_c93
  simp only [hk_mname]
  rcases hnm with hn | hn | hn | hn | hn | hn | hn
  · have hp := p_text h hX hi h0
    rw [hn]
    simp
    exact hp
  · have hp := p_tag h hX hi h0
    rw [hn]
    simp
    exact hp
  · have hp := p_value h hX hi h0 hn
    rw [hn]
    simp
    exact hp
  · have hp := p_inside h hX hi h0 (Or.inl hn)
    have hst : fn1_isStyle c = 0 := by rw [is_eq, hn]; rfl
    rw [hst] at hp
    rw [hn]
    simp
    exact hp
  · have hp := p_inside h hX hi h0 (Or.inr hn)
    have hst : fn1_isStyle c = 1 := by rw [is_eq, hn]; rfl
    rw [hst] at hp
    rw [hn]
    simp
    exact hp
  · have hp := p_title h hX hi h0
    rw [hn]
    simp
    exact hp
  · have hp := p_comment h hX hi h0
    rw [hn]
    simp
    exact hp
