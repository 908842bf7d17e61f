/-! pieces: contexts, and the smaller pieces -/
def CX (c : qt1) : Prop := ∃ (a e k p : Nat) (q : Int32), a ≤ 6 ∧ e ≤ 3 ∧ k ≤ 3 ∧ p ≤ 4 ∧ (q = 0 ∨ q = 34 ∨ q = 39) ∧ c = (Int32.ofNat a, Int32.ofNat e, q, Int32.ofNat k, Int32.ofNat p)
theorem en_eq (c : qt1) (v : Int32) : fn1_enter c v = (v, 0, 0, 0, 0) := by
  rw [fq1_enter]
  rfl
theorem CX.enter {c : qt1} (v : Nat) (hv : v ≤ 6) : CX (fn1_enter c (Int32.ofNat v)) := ⟨v, 0, 0, 0, 0, hv, by omega, by omega, by omega, Or.inl rfl, en_eq ..⟩
theorem CX.e0 (c : qt1) : CX (fn1_enter c 0) := CX.enter 0 (by omega)
theorem CX.e3 (c : qt1) : CX (fn1_enter c 3) := CX.enter 3 (by omega)
theorem CX.e4 (c : qt1) : CX (fn1_enter c 4) := CX.enter 4 (by omega)
theorem CX.e5 (c : qt1) : CX (fn1_enter c 5) := CX.enter 5 (by omega)
theorem CX.e6 (c : qt1) : CX (fn1_enter c 6) := CX.enter 6 (by omega)
theorem CX.part {c : qt1} (h : CX c) (v : Nat) (hv : v ≤ 4) : CX (qu1_part c (Int32.ofNat v)) := by
  obtain ⟨a, e, k, p, q, h1, h2, h3, h4, h5, rfl⟩ := h
  exact ⟨a, e, k, v, q, h1, h2, h3, hv, h5, rfl⟩
theorem CX.p0 {c : qt1} (h : CX c) : CX (qu1_part c 0) := h.part 0 (by omega)
theorem CX.p1 {c : qt1} (h : CX c) : CX (qu1_part c 1) := h.part 1 (by omega)
theorem CX.p2 {c : qt1} (h : CX c) : CX (qu1_part c 2) := h.part 2 (by omega)
theorem CX.p3 {c : qt1} (h : CX c) : CX (qu1_part c 3) := h.part 3 (by omega)
theorem CX.p4 {c : qt1} (h : CX c) : CX (qu1_part c 4) := h.part 4 (by omega)
theorem CX.self {c : qt1} : qu1_part c (qg1_part c) = c := rfl
def PO (s : hs) (g : Nat → Int32) (i : Nat) (A : Int32 × qt1) (B : Int32 × hs) : Prop := ∃ (w : Nat) (c' : qt1), A = (Int32.ofNat w, c') ∧ B = (Int32.ofNat w, hk s c') ∧ CX c' ∧ w ≤ 1000 ∧ ∀ j, i ≤ j → j < i + w → g j ≠ 0
theorem po {s : hs} {g : Nat → Int32} {i : Nat} (w : Nat) {c' : qt1} (h : CX c') (hw : w ≤ 1000) (hg : ∀ j, j < w → g (i + j) ≠ 0) : PO s g i (Int32.ofNat w, c') (Int32.ofNat w, hk s c') := ⟨w, c', rfl, rfl, h, hw, fun j h1 h2 => by have := hg (j - i) (by omega); rwa [show i + (j - i) = j by omega] at this⟩
theorem po0 {s : hs} {g : Nat → Int32} {i : Nat} {c' : qt1} (h : CX c') : PO s g i (0, c') (0, hk s c') := po 0 h (by omega) (fun j hj => by omega)
theorem po1 {s : hs} {g : Nat → Int32} {i : Nat} {c' : qt1} (h0 : g i ≠ 0) (h : CX c') : PO s g i (1, c') (1, hk s c') := po 1 h (by omega) (fun j hj => by rw [show i + j = i by omega]; exact h0)
theorem po2 {s : hs} {g : Nat → Int32} {i : Nat} {c' : qt1} (h0 : g i ≠ 0) (h1 : g (i + 1) ≠ 0) (h : CX c') : PO s g i (2, c') (2, hk s c') := po 2 h (by omega) (fun j hj => match j, hj with | 0, _ => h0 | 1, _ => h1)
theorem po3 {s : hs} {g : Nat → Int32} {i : Nat} {c' : qt1} (h0 : g i ≠ 0) (h1 : g (i + 1) ≠ 0) (h2 : g (i + 2) ≠ 0) (h : CX c') : PO s g i (3, c') (3, hk s c') := po 3 h (by omega) (fun j hj => match j, hj with | 0, _ => h0 | 1, _ => h1 | 2, _ => h2)
theorem po4 {s : hs} {g : Nat → Int32} {i : Nat} {c' : qt1} (h0 : g i ≠ 0) (h1 : g (i + 1) ≠ 0) (h2 : g (i + 2) ≠ 0) (h3 : g (i + 3) ≠ 0) (h : CX c') : PO s g i (4, c') (4, hk s c') := po 4 h (by omega) (fun j hj => match j, hj with | 0, _ => h0 | 1, _ => h1 | 2, _ => h2 | 3, _ => h3)
theorem ne0 {v e : Int32} (h : v = e) (he : e ≠ 0) : v ≠ 0 := by rw [h]; exact he
theorem w_go (s : hs) (v : Int32) : wp10_go s v := trivial
theorem w_en (c : qt1) (v : Int32) : wp1_enter c v := trivial
theorem po_amp {s : hs} {g : Nat → Int32} {i r : Nat} {c : qt1} (h0 : g i ≠ 0) (hX : CX c) (hr : r ≤ 1) : PO s g i (Int32.ofNat r, c) (if Int32.ofNat r = 0 then (0, hk s c) else (1, hk s c)) := by
  by_cases h : r = 0
  · subst h
    rw [if_pos (show Int32.ofNat 0 = 0 from rfl)]
    exact po0 hX
  · have h1 : r = 1 := by omega
    subst h1
    rw [if_neg (show ¬ Int32.ofNat 1 = 0 by decide)]
    exact po1 h0 hX
/-- what a piece's theorem says -/
def PP (s : hs) (g : Nat → Int32) (i : Nat) (P Q : Prop) (A : Int32 × qt1) (B : Int32 × hs) : Prop := P ∧ Q ∧ PO s g i A B
theorem p_comment {x : qt5} {s : hs} {n : Nat} {g : Nat → Int32} (h : CH x s n g) {c : qt1} (hX : CX c) {i : Nat} (hi : i ≤ 240) (h0 : g i ≠ 0) : PP s g i (wp3_inComment x c (Int32.ofNat i)) (wp10_commentPiece (hk s c) (Int32.ofNat i)) (fn3_inComment x c (Int32.ofNat i)) (fn10_commentPiece (hk s c) (Int32.ofNat i)) := by
  refine ⟨?_, ?_, ?_⟩
  · unfold wp3_inComment wp3_ifTwoFollow
    simp (disch := omega) only [q_1, q_2, q_3, h.wsign, h.ws11, w_en, implies_true, and_self, true_and, and_true]
  · unfold wp10_commentPiece wp10_commentPiece_c43
    simp (disch := omega) only [q_1, q_2, q_3, h.wch, w_go, implies_true, and_self, true_and, and_true]
  · rw [fq3_inComment, fq10_commentPiece, fq3_ifTwoFollow]
    unfold fn10_commentPiece_c43
    simp (disch := omega) only [q_1, q_2, q_3, h.sign, h.ch, h.sp11, hk_go, Nat.add_zero, true_and]
    by_cases k0 : g i = 45
    · by_cases k1 : g (i + 1) = 45 ∧ g (i + 2) = 62
      · obtain ⟨k1, k2⟩ := k1
        simp only [k0, k1, k2, and_self, not_true_eq_false, if_false, if_true]
        exact po3 h0 (ne0 k1 (by decide)) (ne0 k2 (by decide)) (CX.e0 c)
      · have k2 : ¬ (g i = 45 ∧ g (i + 1) = 45 ∧ g (i + 2) = 62) := fun q => k1 q.2
        rw [if_pos k2, if_pos k0, if_pos k0]
        have e : (if g (i + 1) = 45 then if g (i + 2) = 62 then ((3 : Int32), hk s (fn1_enter c 0)) else if g (i + 1) = 0 then (0, hk s c) else if g (i + 2) = 0 then (0, hk s c) else (1, hk s c) else if g (i + 1) = 0 then (0, hk s c) else if g (i + 2) = 0 then (0, hk s c) else (1, hk s c)) = if g (i + 1) = 0 then (0, hk s c) else if g (i + 2) = 0 then (0, hk s c) else (1, hk s c) := by
          by_cases k3 : g (i + 1) = 45
          · rw [if_pos k3, if_neg (fun q => k1 ⟨k3, q⟩)]
          · rw [if_neg k3]
        rw [e]
        split
        · exact po0 hX
        · split
          · exact po0 hX
          · exact po1 h0 hX
    · rw [if_pos (fun q => k0 q.1), if_neg k0, if_neg k0]
      exact po1 h0 hX
theorem p_title {x : qt5} {s : hs} {n : Nat} {g : Nat → Int32} (h : CH x s n g) {c : qt1} (hX : CX c) {i : Nat} (hi : i ≤ 240) (h0 : g i ≠ 0) : PP s g i (wp3_inTitle x c (Int32.ofNat i)) (wp10_titlePiece (hk s c) (Int32.ofNat i)) (fn3_inTitle x c (Int32.ofNat i)) (fn10_titlePiece (hk s c) (Int32.ofNat i)) := by
  obtain ⟨r, r1, r2, r3, r4⟩ := h.amp (show i ≤ 1000 by omega)
  refine ⟨?_, ?_, ?_⟩
  · unfold wp3_inTitle
    simp (disch := omega) only [q_8, h.wsign, h.ws10, w_en, r2, implies_true, and_self, true_and, and_true]
  · unfold wp10_titlePiece wp10_titlePiece_c52 wp10_titlePiece_c53 wp10_titlePiece_c63 wp10_titlePiece_c88
    simp (disch := omega) only [q_1, q_2, q_7, h.wch, h.wisTitle, w_go, fun c => (r4 c).1, implies_true, and_self, true_and, and_true]
  · rw [fq3_inTitle, fq10_titlePiece, r3, (r4 c).2]
    unfold fn10_titlePiece_c52 fn10_titlePiece_c53 fn10_titlePiece_c63 fn10_titlePiece_c88
    rw [show (5 : Int32) = Int32.ofNat 5 from rfl]
    simp (disch := omega) only [q_1, q_2, q_7, q_8, h.sign, h.ch, h.sp10, h.isTitle, hk_go, Nat.add_zero, true_and, Nat.add_assoc]
    by_cases k0 : g i = 60
    · have k1 : ¬ g i = 38 := by rw [k0]; decide
      rw [if_neg k1, if_pos k0, if_pos k0]
      by_cases k2 : g (i + 1) = 47 ∧ g (i + 2) = 116 ∧ g (i + 3) = 105 ∧ g (i + 4) = 116 ∧ g (i + 5) = 108 ∧ g (i + 6) = 101 ∧ g (i + 7) = 62
      · obtain ⟨k2, k3, k4, k5, k6, k7, k8⟩ := k2
        simp only [k0, k2, k3, k4, k5, k6, k7, k8, and_self, not_true_eq_false, if_false, if_true, show ¬ (1 : Int32) = 0 by decide]
        exact po 8 (CX.e0 c) (by omega) (fun j hj => match j, hj with | 0, _ => h0 | 1, _ => ne0 k2 (by decide) | 2, _ => ne0 k3 (by decide) | 3, _ => ne0 k4 (by decide) | 4, _ => ne0 k5 (by decide) | 5, _ => ne0 k6 (by decide) | 6, _ => ne0 k7 (by decide) | 7, _ => ne0 k8 (by decide))
      · rw [if_pos (fun q => k2 q.2)]
        have e : (if g (i + 1) = 47 then if ¬ (g (i + 2) = 116 ∧ g (i + 3) = 105 ∧ g (i + 4) = 116 ∧ g (i + 5) = 108 ∧ g (i + 6) = 101) then ((0 : Int32), hk s c) else if g (i + 7) = 62 then (8, hk s (fn1_enter c 0)) else (0, hk s c) else (0, hk s c)) = (0, hk s c) := by
          by_cases k3 : g (i + 1) = 47
          · rw [if_pos k3]
            by_cases k4 : g (i + 2) = 116 ∧ g (i + 3) = 105 ∧ g (i + 4) = 116 ∧ g (i + 5) = 108 ∧ g (i + 6) = 101
            · rw [if_neg (fun q => q k4), if_neg (fun q => k2 ⟨k3, k4.1, k4.2.1, k4.2.2.1, k4.2.2.2.1, k4.2.2.2.2, q⟩)]
            · rw [if_pos k4]
          · rw [if_neg k3]
        simp only [if_true, show ¬ (1 : Int32) = 0 by decide, if_false]
        rw [e]
        exact po0 hX
    · rw [if_neg k0, if_neg k0]
      by_cases k1 : g i = 38
      · rw [if_pos k1, if_pos k1]
        exact po_amp h0 hX r1
      · rw [if_neg k1, if_neg k1]
        exact po1 h0 hX
