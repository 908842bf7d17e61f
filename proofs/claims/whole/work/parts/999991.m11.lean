/-! pieces: addresses, code, values -/
theorem p_url {x : qt5} {s : hs} {n : Nat} {g : Nat → Int32} (h : CH x s n g) {c : qt1} (hX : CX c) {i : Nat} (hi : i ≤ 240) (h0 : g i ≠ 0) : PP s g i (wp3_inUrl x c (Int32.ofNat i)) (wp10_urlPiece (hk s c) (Int32.ofNat i)) (fn3_inUrl x c (Int32.ofNat i)) (fn10_urlPiece (hk s c) (Int32.ofNat i)) := by
  obtain ⟨r, r1, r2, r3, r4⟩ := h.amp (show i ≤ 1000 by omega)
  have U : PO s g i (fn3_inUrl_c36 x c (g i)) (fn10_urlPiece_c48 (hk s c) (g i)) := by
    unfold fn3_inUrl_c36 fn3_inUrl_c48 fn10_urlPiece_c48 fn10_urlPiece_c61 fn10_urlPiece_c80
    simp only [hk_mpart, hk_part, CX.self]
    by_cases k1 : g i = 63
    · simp only [if_pos k1]
      exact po1 h0 hX.p2
    · by_cases k2 : g i = 35
      · simp only [if_neg k1, if_pos k2]
        exact po1 h0 hX.p2
      · simp only [if_neg k1, if_neg k2]
        by_cases k3 : qg1_part c = 0
        · simp only [if_pos k3]
          exact po1 h0 hX.p1
        · simp only [if_neg k3]
          exact po1 h0 hX
  have V : PO s g i (fn3_inUrl_c20 x c (Int32.ofNat i) (g i)) (fn10_urlPiece_c20 (hk s c) (Int32.ofNat i) (g i)) := by
    unfold fn3_inUrl_c20 fn10_urlPiece_c20
    rw [fq3_ifTwoFollow]
    simp (disch := omega) only [q_1, q_2, h.sign, h.ch]
    by_cases k1 : g i = 37
    · simp only [if_pos k1]
      by_cases k2 : g (i + 1) = 0
      · simp only [if_pos k2, if_true]
        exact po0 hX
      · by_cases k3 : g (i + 2) = 0
        · simp only [if_neg k2, if_pos k3, if_true]
          exact po0 hX
        · simp only [if_neg k2, if_neg k3, show ¬ (1 : Int32) = 0 by decide, if_false]
          exact U
    · simp only [if_neg k1]
      exact U
  refine ⟨?_, ?_, ?_⟩
  · unfold wp3_inUrl wp3_inUrl_c20 wp3_inUrl_c36 wp3_inUrl_c48 wp3_ifTwoFollow
    simp (disch := omega) only [q_1, q_2, h.wsign, r2, implies_true, and_self, true_and, and_true]
  · unfold wp10_urlPiece wp10_urlPiece_c20 wp10_urlPiece_c48 wp10_urlPiece_c61 wp10_urlPiece_c80
    simp (disch := omega) only [q_1, q_2, h.wch, fun c => (r4 c).1, implies_true, and_self, true_and, and_true]
  · rw [fq3_inUrl, fq10_urlPiece, r3, (r4 c).2]
    simp (disch := omega) only [h.sign, h.ch]
    by_cases k1 : g i = 38
    · simp only [if_pos k1]
      by_cases hr : r = 0
      · subst hr
        simp only [if_pos (show Int32.ofNat 0 = 0 from rfl)]
        exact po0 hX
      · have hr1 : r = 1 := by omega
        subst hr1
        simp only [if_neg (show ¬ Int32.ofNat 1 = 0 by decide)]
        exact V
    · simp only [if_neg k1]
      exact V
theorem iq4 (c : Int32) : fn4_isQuote c = 0 ↔ ¬ (c = 34 ∨ c = 39) := by rw [fq4_isQuote]; grind
theorem CX.pz {c : qt1} (h : qg1_part c = 0) : qu1_part c 0 = c := by rw [← h]; rfl
theorem p_bare {x : qt5} {s : hs} {n : Nat} {g : Nat → Int32} (h : CH x s n g) {c : qt1} (hX : CX c) {i : Nat} (hi : i ≤ 240) (h0 : g i ≠ 0) (hp : qg1_part c = 0) : PP s g i (wp3_inBareCode x c (Int32.ofNat i)) (wp10_openPiece (hk s c) (Int32.ofNat i) (fn1_isStyle c)) (fn3_inBareCode x c (Int32.ofNat i)) (fn10_openPiece (hk s c) (Int32.ofNat i) (fn1_isStyle c)) := by
  have cz := CX.pz hp
  refine ⟨?_, ?_, ?_⟩
  · unfold wp3_inBareCode wp3_inBareCode_c41 wp3_inBareCode_c66 wp3_inBareCode_c101 wp3_inBareCode_c120 wp4_isQuote wp1_isStyle
    simp (disch := omega) only [q_1, h.wsign, implies_true, and_self, true_and, and_true]
  · unfold wp10_openPiece wp10_openPiece_c39 wp10_openPiece_c57 wp10_openPiece_c94 wp10_openPiece_c52
    simp (disch := omega) only [q_1, h.wch, implies_true, and_self, true_and, and_true]
  · rw [fq3_inBareCode, fq10_openPiece]
    simp (disch := omega) only [q_1, h.sign, h.ch]
    unfold fn3_inBareCode_c41 fn3_inBareCode_c66 fn3_inBareCode_c101 fn3_inBareCode_c120 fn10_openPiece_c39 fn10_openPiece_c57 fn10_openPiece_c94 fn10_openPiece_c52
    simp (maxSteps := 2000000) only [hk_part, iq4, cz]
    generalize fn1_isStyle c = st
    by_cases k1 : g i = 47
    · by_cases k2 : g (i + 1) = 42
      · simp only [if_pos k1, if_pos k2]
        exact po2 h0 (ne0 k2 (by decide)) hX.p4
      · by_cases k3 : g (i + 1) = 47
        · by_cases k4 : st = 0
          · simp only [if_pos k1, if_neg k2, if_pos k3, if_pos k4]
            exact po2 h0 (ne0 k3 (by decide)) hX.p3
          · simp only [if_pos k1, if_neg k2, if_pos k3, if_neg k4, if_neg (ne0 k3 (by decide))]
            exact po1 h0 hX
        · by_cases k4 : st = 0
          · simp only [if_pos k1, if_neg k2, if_neg k3, if_pos k4]
            exact po0 hX
          · simp only [if_pos k1, if_neg k2, if_neg k3, if_neg k4]
            by_cases k5 : g (i + 1) = 0
            · simp only [if_pos k5]
              exact po0 hX
            · simp only [if_neg k5]
              exact po1 h0 hX
    · simp only [if_neg k1]
      by_cases k2 : g i = 96
      · have k3 : ¬ g i = 39 := by rw [k2]; decide
        have k4 : ¬ g i = 34 := by rw [k2]; decide
        have k5 : ¬ (g i = 34 ∨ g i = 39) := fun q => by rcases q with q | q; exact k4 q; exact k3 q
        simp only [if_pos k2, if_neg k3, if_neg k4, if_pos k5]
        by_cases k6 : st = 0
        · simp only [if_pos k6]
          exact po0 hX
        · simp only [if_neg k6]
          exact po1 h0 hX
      · simp only [if_neg k2]
        by_cases k3 : g i = 39
        · simp only [if_neg (show ¬ ¬ (g i = 34 ∨ g i = 39) from fun q => q (Or.inr k3)), if_pos k3]
          exact po1 h0 hX.p1
        · by_cases k4 : g i = 34
          · simp only [if_neg (show ¬ ¬ (g i = 34 ∨ g i = 39) from fun q => q (Or.inl k4)), if_neg k3, if_pos k4]
            exact po1 h0 hX.p2
          · have k5 : ¬ (g i = 34 ∨ g i = 39) := fun q => by rcases q with q | q; exact k4 q; exact k3 q
            simp only [if_neg k3, if_neg k4, if_pos k5]
            exact po1 h0 hX
theorem p_string {x : qt5} {s : hs} {n : Nat} {g : Nat → Int32} (h : CH x s n g) {c : qt1} (hX : CX c) {i : Nat} (hi : i ≤ 240) (h0 : g i ≠ 0) : PP s g i (wp3_inString x c (Int32.ofNat i)) (wp10_stringPiece (hk s c) (Int32.ofNat i)) (fn3_inString x c (Int32.ofNat i)) (fn10_stringPiece (hk s c) (Int32.ofNat i)) := by
  have U : ∀ u : Int32, PO s g i (fn3_inString_c22 x c (Int32.ofNat i) (g i) u (g i)) (fn10_stringPiece_c30 (hk s c) (g i) (g (i + 1)) u (g i)) := by
    intro u
    unfold fn3_inString_c22 fn3_inString_c80 fn3_inString_c81 fn3_inString_c107 fn10_stringPiece_c30 fn10_stringPiece_c78
    simp (disch := omega) only [q_1, h.sign, hk_part, hk_mname, hk_mquote]
    by_cases k1 : g i = u
    · simp only [if_pos k1]
      exact po1 h0 hX.p0
    · simp only [if_neg k1]
      by_cases k2 : g i = 92
      · simp only [if_pos k2]
        by_cases k3 : g (i + 1) = 0
        · simp only [if_pos k3, ite_self]
          exact po0 hX
        · by_cases k4 : g (i + 1) = 60
          · simp only [if_neg k3, if_pos k4, ite_self]
            exact po0 hX
          · by_cases k5 : g (i + 1) = 38
            · simp only [if_neg k3, if_neg k4, if_pos k5, ite_self]
              exact po0 hX
            · simp only [if_neg k3, if_neg k4, if_neg k5, if_true, show ¬ (1 : Int32) = 0 by decide, if_false]
              by_cases k6 : qg1_name c = 2
              · simp only [if_pos k6]
                by_cases k7 : g (i + 1) = qg1_quote c
                · simp only [if_pos k7]
                  exact po0 hX
                · simp only [if_neg k7]
                  exact po2 h0 k3 hX
              · simp only [if_neg k6]
                exact po2 h0 k3 hX
      · simp only [if_neg k2]
        by_cases k3 : g i = 10
        · simp only [if_pos k3]
          exact po0 hX
        · simp only [if_neg k3]
          exact po1 h0 hX
  refine ⟨?_, ?_, ?_⟩
  · unfold wp3_inString wp3_inString_c22 wp3_inString_c80 wp3_inString_c81 wp3_inString_c107
    simp (disch := omega) only [q_1, h.wsign, implies_true, and_self, true_and, and_true]
  · unfold wp10_stringPiece wp10_stringPiece_c30 wp10_stringPiece_c78
    simp (disch := omega) only [q_1, h.wch, implies_true, and_self, true_and, and_true]
  · rw [fq3_inString, fq10_stringPiece]
    simp (disch := omega) only [q_1, h.sign, h.ch, hk_mpart]
    by_cases k1 : qg1_part c = 1
    · simp only [if_pos k1]
      exact U _
    · simp only [if_neg k1]
      exact U _
theorem p_code {x : qt5} {s : hs} {n : Nat} {g : Nat → Int32} (h : CH x s n g) {c : qt1} (hX : CX c) {i : Nat} (hi : i ≤ 240) (h0 : g i ≠ 0) : PP s g i (wp3_inCode_c27 x c (Int32.ofNat i) (g i)) (wp10_codePiece (hk s c) (Int32.ofNat i) (fn1_isStyle c)) (fn3_inCode_c27 x c (Int32.ofNat i) (g i)) (fn10_codePiece (hk s c) (Int32.ofNat i) (fn1_isStyle c)) := by
  have hS := p_string h hX hi h0
  have hpt : qg1_part c = 0 ∨ qg1_part c = 1 ∨ qg1_part c = 2 ∨ qg1_part c = 3 ∨ qg1_part c = 4 := by
    obtain ⟨a, e, k, p, q, h1, h2, h3, h4, h5, rfl⟩ := hX
    show Int32.ofNat p = 0 ∨ Int32.ofNat p = 1 ∨ Int32.ofNat p = 2 ∨ Int32.ofNat p = 3 ∨ Int32.ofNat p = 4
    match p, h4 with
    | 0, _ => exact Or.inl rfl
    | 1, _ => exact Or.inr (Or.inl rfl)
    | 2, _ => exact Or.inr (Or.inr (Or.inl rfl))
    | 3, _ => exact Or.inr (Or.inr (Or.inr (Or.inl rfl)))
    | 4, _ => exact Or.inr (Or.inr (Or.inr (Or.inr rfl)))
  have wb : wp3_inBlockComment x c (Int32.ofNat i) := by
    unfold wp3_inBlockComment
    simp (disch := omega) only [q_1, h.wsign, implies_true, and_self, true_and, and_true]
  have wo : wp10_openPiece (hk s c) (Int32.ofNat i) (fn1_isStyle c) := by
    unfold wp10_openPiece wp10_openPiece_c39 wp10_openPiece_c57 wp10_openPiece_c94 wp10_openPiece_c52
    simp (disch := omega) only [q_1, h.wch, implies_true, and_self, true_and, and_true]
  have wr : wp3_inBareCode x c (Int32.ofNat i) := by
    unfold wp3_inBareCode wp3_inBareCode_c41 wp3_inBareCode_c66 wp3_inBareCode_c101 wp3_inBareCode_c120 wp4_isQuote wp1_isStyle
    simp (disch := omega) only [q_1, h.wsign, implies_true, and_self, true_and, and_true]
  refine ⟨?_, ?_, ?_⟩
  · unfold wp3_inCode_c27 wp3_inCode_c86
    simp only [hS.1, wb, wr, implies_true, and_self, true_and, and_true]
  · unfold wp10_codePiece wp10_codePiece_c63 wp10_codePiece_c88
    simp (disch := omega) only [q_1, h.wch, hS.2.1, wo, implies_true, and_self, true_and, and_true]
  · rw [fq10_codePiece]
    unfold fn3_inCode_c27 fn3_inCode_c86 fn10_codePiece_c63 fn10_codePiece_c88
    simp (disch := omega) only [q_1, h.ch, hk_part, hk_mpart]
    rcases hpt with hp | hp | hp | hp | hp
    · simp only [if_pos hp]
      exact (p_bare h hX hi h0 hp).2.2
    · have e0 : ¬ qg1_part c = 0 := by rw [hp]; decide
      have e3 : ¬ 3 ≤ qg1_part c := by rw [hp]; decide
      simp only [if_neg e0, if_pos hp, if_neg e3]
      exact hS.2.2
    · have e0 : ¬ qg1_part c = 0 := by rw [hp]; decide
      have e1 : ¬ qg1_part c = 1 := by rw [hp]; decide
      have e3 : ¬ 3 ≤ qg1_part c := by rw [hp]; decide
      simp only [if_neg e0, if_neg e1, if_pos hp, if_neg e3]
      exact hS.2.2
    · have e0 : ¬ qg1_part c = 0 := by rw [hp]; decide
      have e1 : ¬ qg1_part c = 1 := by rw [hp]; decide
      have e2 : ¬ qg1_part c = 2 := by rw [hp]; decide
      have e3 : 3 ≤ qg1_part c := by rw [hp]; decide
      have e5 : qu1_part c 3 = c := by rw [← hp]; rfl
      simp only [if_neg e0, if_neg e1, if_neg e2, if_pos hp, if_pos e3, CX.self, e5]
      by_cases k : g i = 10
      · simp only [if_pos k]
        exact po1 h0 hX.p0
      · simp only [if_neg k]
        exact po1 h0 hX
    · have e0 : ¬ qg1_part c = 0 := by rw [hp]; decide
      have e1 : ¬ qg1_part c = 1 := by rw [hp]; decide
      have e2 : ¬ qg1_part c = 2 := by rw [hp]; decide
      have e3 : 3 ≤ qg1_part c := by rw [hp]; decide
      have e4 : ¬ qg1_part c = 3 := by rw [hp]; decide
      rw [fq3_inBlockComment]
      simp (disch := omega) only [q_1, h.sign, if_neg e0, if_neg e1, if_neg e2, if_pos e3, if_neg e4, if_pos hp]
      by_cases k : g i = 42
      · simp only [if_pos k]
        by_cases k2 : g (i + 1) = 47
        · simp only [if_pos k2]
          exact po2 h0 (ne0 k2 (by decide)) hX.p0
        · simp only [if_neg k2]
          by_cases k3 : g (i + 1) = 0
          · simp only [if_pos k3]
            exact po0 hX
          · simp only [if_neg k3]
            exact po1 h0 hX
      · simp only [if_neg k]
        exact po1 h0 hX
