/-! pieces: values, scripts and styles -/
theorem is_eq (c : qt1) : fn1_isStyle c = if qg1_name c = 4 then 1 else if qg1_name c = 2 then (if qg1_kind c = 3 then 1 else 0) else 0 := fq1_isStyle c
theorem CX.tag {c d : qt1} (h : CX c) : CX (fn1_enterTag d (qg1_element c)) := by
  obtain ⟨a, e, k, p, q, h1, h2, h3, h4, h5, rfl⟩ := h
  refine ⟨1, e, 0, 0, 0, by omega, h2, by omega, by omega, Or.inl rfl, ?_⟩
  rw [fq1_enterTag, en_eq]
  rfl
theorem CX.tagv {d : qt1} (e : Nat) (he : e ≤ 3) : CX (fn1_enterTag d (Int32.ofNat e)) := by
  refine ⟨1, e, 0, 0, 0, by omega, he, by omega, by omega, Or.inl rfl, ?_⟩
  rw [fq1_enterTag, en_eq]
  rfl
theorem p_value {x : qt5} {s : hs} {n : Nat} {g : Nat → Int32} (h : CH x s n g) {c : qt1} (hX : CX c) {i : Nat} (hi : i ≤ 240) (h0 : g i ≠ 0) (hn : qg1_name c = 2) : PP s g i (wp3_inValue x c (Int32.ofNat i)) (wp10_valuePiece (hk s c) (Int32.ofNat i)) (fn3_inValue x c (Int32.ofNat i)) (fn10_valuePiece (hk s c) (Int32.ofNat i)) := by
  obtain ⟨r, r1, r2, r3, r4⟩ := h.amp (show i ≤ 1000 by omega)
  have hU := p_url h hX hi h0
  have hC := p_code h hX hi h0
  have hst : fn1_isStyle c = if qg1_kind c = 3 then 1 else 0 := by
    rw [is_eq, if_neg (by rw [hn]; decide), if_pos hn]
  have wc : wp3_inCode x c (Int32.ofNat i) := by
    unfold wp3_inCode
    simp (disch := omega) only [h.wsign, h.sign, hC.1, hn, not_true_eq_false, false_implies, implies_true, and_self, true_and, and_true]
  refine ⟨?_, ?_, ?_⟩
  · unfold wp3_inValue wp3_inValue_c31 wp1_enterTag
    simp (disch := omega) only [h.wsign, hU.1, wc, r2, w_en, implies_true, and_self, true_and, and_true]
  · have hc2 := hC.2.1
    rw [hst] at hc2
    unfold wp10_valuePiece wp10_valuePiece_c31 wp10_valuePiece_c69 wp10_valuePiece_c114
    by_cases k : qg1_kind c = 3
    · rw [if_pos k] at hc2
      simp (disch := omega) only [h.wch, hU.2.1, hc2, w_go, hk_mkind, k, fun c => (r4 c).1, implies_true, and_self, true_and, and_true, not_true_eq_false, false_implies]
    · rw [if_neg k] at hc2
      simp (disch := omega) only [h.wch, hU.2.1, hc2, w_go, hk_mkind, k, fun c => (r4 c).1, implies_true, and_self, true_and, and_true, not_true_eq_false, false_implies]
  · rw [fq3_inValue, fq10_valuePiece, r3, (r4 c).2]
    unfold fn3_inValue_c31 fn10_valuePiece_c31 fn10_valuePiece_c69 fn10_valuePiece_c114
    simp (disch := omega) only [h.sign, h.ch, hk_mquote, hk_mpart, hk_mkind, hk_melement, hk_go, hk_element]
    have et : hk s (qu1_element (fn1_enter c 1) (qg1_element c)) = hk s (fn1_enterTag c (qg1_element c)) := by rw [fq1_enterTag]
    rw [et]
    by_cases k1 : g i = qg1_quote c
    · simp only [if_pos k1]
      by_cases k2 : qg1_part c = 0
      · simp only [if_pos k2]
        exact po1 h0 hX.tag
      · simp only [if_neg k2]
        by_cases k3 : qg1_kind c = 1
        · simp only [if_pos k3]
          exact po1 h0 hX.tag
        · simp only [if_neg k3]
          exact po0 hX
    · simp only [if_neg k1]
      by_cases k2 : qg1_kind c = 0
      · have k3 : ¬ qg1_kind c = 1 := by rw [k2]; decide
        simp only [if_neg k3, if_pos k2]
        by_cases k4 : g i = 38
        · simp only [if_pos k4]
          exact po_amp h0 hX r1
        · simp only [if_neg k4]
          exact po1 h0 hX
      · by_cases k3 : qg1_kind c = 1
        · simp only [if_neg k2, if_pos k3]
          exact hU.2.2
        · simp only [if_neg k2, if_neg k3]
          by_cases k4 : g i = 38
          · simp only [if_pos k4]
            exact po0 hX
          · simp only [if_neg k4]
            have e : fn3_inCode x c (Int32.ofNat i) = fn3_inCode_c27 x c (Int32.ofNat i) (g i) := by
              rw [fq3_inCode]
              simp (disch := omega) only [h.sign, if_pos hn, ite_self]
            rw [e]
            have hc2 := hC.2.2
            rw [hst] at hc2
            by_cases k5 : qg1_kind c = 3
            · rw [if_pos k5] at hc2
              simp only [if_pos k5]
              exact hc2
            · rw [if_neg k5] at hc2
              simp only [if_neg k5]
              exact hc2
theorem p_inside {x : qt5} {s : hs} {n : Nat} {g : Nat → Int32} (h : CH x s n g) {c : qt1} (hX : CX c) {i : Nat} (hi : i ≤ 240) (h0 : g i ≠ 0) (hn : qg1_name c = 3 ∨ qg1_name c = 4) : PP s g i (wp3_inCode x c (Int32.ofNat i)) (wp10_insidePiece (hk s c) (Int32.ofNat i) (fn1_isStyle c)) (fn3_inCode x c (Int32.ofNat i)) (fn10_insidePiece (hk s c) (Int32.ofNat i) (fn1_isStyle c)) := by
  have hC := p_code h hX hi h0
  have hn2 : ¬ qg1_name c = 2 := fun q => by rcases hn with k | k <;> rw [k] at q <;> exact absurd q (by decide)
  have h8 : fnJ_length 8 = Int32.ofNat 8 := j_len (by omega)
  have h9 : fnJ_length 9 = Int32.ofNat 9 := j_len (by omega)
  have hst : fn1_isStyle c = 0 ∨ fn1_isStyle c = 1 := by
    rw [is_eq, if_neg hn2]
    by_cases k : qg1_name c = 4
    · exact Or.inr (if_pos k)
    · exact Or.inl (if_neg k)
  have wl : wp3_lessThan x c (Int32.ofNat i) := by
    unfold wp3_lessThan wp3_lessThan_c14 wp3_lessThan_c47 wp3_lessThan_c75 wp1_isStyle
    simp (disch := omega) only [h8, h9, q_add, q_1, h.wsign, h.ws8, h.ws9, w_en, j_wlen, implies_true, and_self, true_and, and_true]
  refine ⟨?_, ?_, ?_⟩
  · unfold wp3_inCode
    simp (disch := omega) only [h.wsign, h.sign, hC.1, wl, hn2, not_true_eq_false, false_implies, implies_true, and_self, true_and, and_true]
  · unfold wp10_insidePiece wp10_insidePiece_c35 wp10_insidePiece_c73 wp10_insidePiece_c92 wp10_insidePiece_c93 wp10_insidePiece_c117
    simp (disch := omega) only [q_1, q_2, q_5, q_6, h.wch, h.wisScript, h.wisStyle, hC.2.1, w_go, implies_true, and_self, true_and, and_true]
  · have L : ∀ v : Int32, v = g (i + 1) → PO s g i (fn3_lessThan_c47 x c (Int32.ofNat i)) (fn10_insidePiece_c117 (hk s c) v) := by
      intro v hv
      subst hv
      unfold fn3_lessThan_c47 fn3_lessThan_c75 fn10_insidePiece_c117
      simp (disch := omega) only [q_1, h.sign]
      by_cases k1 : g (i + 1) = 0
      · simp only [if_pos k1]
        exact po0 hX
      · by_cases k2 : g (i + 1) = 47
        · simp only [if_neg k1, if_pos k2]
          exact po0 hX
        · by_cases k3 : g (i + 1) = 33
          · simp only [if_neg k1, if_neg k2, if_pos k3]
            exact po0 hX
          · simp only [if_neg k1, if_neg k2, if_neg k3]
            exact po1 h0 hX
    rw [fq3_inCode, fq10_insidePiece]
    simp (disch := omega) only [h.sign, h.ch, q_1, if_neg hn2]
    by_cases k0 : g i = 60
    · simp only [if_pos k0]
      rw [fq3_lessThan]
      have z92 : ∀ u : Int32, PO s g i (fn3_lessThan_c47 x c (Int32.ofNat i)) (fn10_insidePiece_c92 (hk s c) (g (i + 1)) u) := fun u => by
        unfold fn10_insidePiece_c92 fn10_insidePiece_c93
        simp only [if_true, ite_self]
        exact L _ rfl
      rcases hst with hs0 | hs1
      · simp only [if_pos hs0]
        unfold fn3_lessThan_c14 fn10_insidePiece_c35
        rw [hs0]
        rw [show (6 : Int32) = Int32.ofNat 6 from rfl]
        simp (disch := omega) only [h9, q_add, q_2, h.sp9, h.isScript, if_true, true_and, Nat.add_zero, Nat.add_assoc, Nat.reduceAdd, k0]
        by_cases kp : qg1_part c = 0
        · simp only [if_pos kp]
          by_cases k1 : g (i + 1) = 47
          · simp only [if_pos k1]
            by_cases k2 : g (i + 2) = 115 ∧ g (i + 3) = 99 ∧ g (i + 4) = 114 ∧ g (i + 5) = 105 ∧ g (i + 6) = 112 ∧ g (i + 7) = 116
            · unfold fn10_insidePiece_c73
              simp (disch := omega) only [q_2, q_add, h.ch, Nat.add_assoc, Nat.reduceAdd]
              simp only [if_neg (show ¬ ¬ (g (i + 2) = 115 ∧ g (i + 3) = 99 ∧ g (i + 4) = 114 ∧ g (i + 5) = 105 ∧ g (i + 6) = 112 ∧ g (i + 7) = 116) from fun q => q k2)]
              by_cases k3 : g (i + 8) = 62
              · rw [if_neg (fun q => q ⟨k1, k2.1, k2.2.1, k2.2.2.1, k2.2.2.2.1, k2.2.2.2.2.1, k2.2.2.2.2.2, k3⟩), if_pos k3]
                unfold fn10_insidePiece_c93
                rw [hk_mpart, if_pos kp, if_neg (by decide), hk_go]
                exact po 9 (CX.e0 c) (by omega) (fun j hj => match j, hj with | 0, _ => h0 | 1, _ => ne0 k1 (by decide) | 2, _ => ne0 k2.1 (by decide) | 3, _ => ne0 k2.2.1 (by decide) | 4, _ => ne0 k2.2.2.1 (by decide) | 5, _ => ne0 k2.2.2.2.1 (by decide) | 6, _ => ne0 k2.2.2.2.2.1 (by decide) | 7, _ => ne0 k2.2.2.2.2.2 (by decide) | 8, _ => ne0 k3 (by decide))
              · rw [if_pos (fun q => k3 q.2.2.2.2.2.2.2), if_neg k3]
                exact z92 _
            · rw [if_pos (fun q => k2 ⟨q.2.1, q.2.2.1, q.2.2.2.1, q.2.2.2.2.1, q.2.2.2.2.2.1, q.2.2.2.2.2.2.1⟩), if_pos k2]
              exact z92 _
          · rw [if_pos (fun q => k1 q.1), if_neg k1]
            exact z92 _
        · simp only [if_neg kp]
          have z73 : PO s g i (fn3_lessThan_c47 x c (Int32.ofNat i)) (fn10_insidePiece_c73 (hk s c) (Int32.ofNat i) (g (i + 1)) (Int32.ofNat 6)) := by
            unfold fn10_insidePiece_c73 fn10_insidePiece_c92 fn10_insidePiece_c93
            simp only [hk_mpart, if_neg kp, ite_self]
            exact L _ rfl
          split
          · split
            · exact z92 _
            · exact z73
          · exact z92 _
      · have hs1' : ¬ fn1_isStyle c = 0 := by rw [hs1]; decide
        simp only [if_neg hs1']
        unfold fn3_lessThan_c14 fn10_insidePiece_c35
        rw [hs1]
        rw [show (5 : Int32) = Int32.ofNat 5 from rfl]
        simp (disch := omega) only [h8, q_add, q_2, h.sp8, h.isStyle, if_false, show ¬ (1 : Int32) = 0 by decide, true_and, Nat.add_zero, Nat.add_assoc, Nat.reduceAdd, k0]
        by_cases kp : qg1_part c = 0
        · simp only [if_pos kp]
          by_cases k1 : g (i + 1) = 47
          · simp only [if_pos k1]
            by_cases k2 : g (i + 2) = 115 ∧ g (i + 3) = 116 ∧ g (i + 4) = 121 ∧ g (i + 5) = 108 ∧ g (i + 6) = 101
            · unfold fn10_insidePiece_c73
              simp (disch := omega) only [q_2, q_add, h.ch, Nat.add_assoc, Nat.reduceAdd]
              simp only [if_neg (show ¬ ¬ (g (i + 2) = 115 ∧ g (i + 3) = 116 ∧ g (i + 4) = 121 ∧ g (i + 5) = 108 ∧ g (i + 6) = 101) from fun q => q k2)]
              by_cases k3 : g (i + 7) = 62
              · rw [if_neg (fun q => q ⟨k1, k2.1, k2.2.1, k2.2.2.1, k2.2.2.2.1, k2.2.2.2.2, k3⟩), if_pos k3]
                unfold fn10_insidePiece_c93
                rw [hk_mpart, if_pos kp, if_neg (by decide), hk_go]
                exact po 8 (CX.e0 c) (by omega) (fun j hj => match j, hj with | 0, _ => h0 | 1, _ => ne0 k1 (by decide) | 2, _ => ne0 k2.1 (by decide) | 3, _ => ne0 k2.2.1 (by decide) | 4, _ => ne0 k2.2.2.1 (by decide) | 5, _ => ne0 k2.2.2.2.1 (by decide) | 6, _ => ne0 k2.2.2.2.2 (by decide) | 7, _ => ne0 k3 (by decide))
              · rw [if_pos (fun q => k3 q.2.2.2.2.2.2), if_neg k3]
                exact z92 _
            · rw [if_pos (fun q => k2 ⟨q.2.1, q.2.2.1, q.2.2.2.1, q.2.2.2.2.1, q.2.2.2.2.2.1⟩), if_pos k2]
              exact z92 _
          · rw [if_pos (fun q => k1 q.1), if_neg k1]
            exact z92 _
        · simp only [if_neg kp]
          have z73 : PO s g i (fn3_lessThan_c47 x c (Int32.ofNat i)) (fn10_insidePiece_c73 (hk s c) (Int32.ofNat i) (g (i + 1)) (Int32.ofNat 5)) := by
            unfold fn10_insidePiece_c73 fn10_insidePiece_c92 fn10_insidePiece_c93
            simp only [hk_mpart, if_neg kp, ite_self]
            exact L _ rfl
          split
          · split
            · exact z92 _
            · exact z73
          · exact z92 _
    · simp only [if_neg k0]
      exact hC.2.2
