/-! compiling: the states of both, symbol by symbol -/
theorem hv_hk (s : hs) (c : qt1) : hm_thrown (hk s c) = hm_thrown s ∧ hm_typed (hk s c) = hm_typed s ∧ hm_length (hk s c) = hm_length s ∧ hm_symbols (hk s c) = hm_symbols s ∧ hm_compiled (hk s c) = hm_compiled s ∧ hm_fault (hk s c) = hm_fault s ∧ hm_holes (hk s c) = hm_holes s ∧ hm_open (hk s c) = hm_open s ∧ hm_deep (hk s c) = hm_deep s ∧ hm_size (hk s c) = hm_size s ∧ hm_full (hk s c) = hm_full s ∧ hm_row (hk s c) = hm_row s ∧ hm_template (hk s c) = hm_template s ∧ hm_sort (hk s c) = hm_sort s ∧ hm_sign (hk s c) = hm_sign s ∧ hm_place (hk s c) = hm_place s ∧ hm_marked (hk s c) = hm_marked s ∧ hm_other (hk s c) = hm_other s ∧ hm_closing (hk s c) = hm_closing s ∧ hm_opener (hk s c) = hm_opener s ∧ hm_contexts (hk s c) = hm_contexts s ∧ hm_opened (hk s c) = hm_opened s ∧ hm_before (hk s c) = hm_before s ∧ hm_ended (hk s c) = hm_ended s ∧ hm_divided (hk s c) = hm_divided s ∧ hm_counts (hk s c) = hm_counts s ∧ hm_lengths (hk s c) = hm_lengths s ∧ hm_items (hk s c) = hm_items s ∧ hm_alone (hk s c) = hm_alone s ∧ hm_loops (hk s c) = hm_loops s ∧ hm_saved (hk s c) = hm_saved s ∧ hm_out (hk s c) = hm_out s := by
  unfold hk
  simp only [hv_context, hv_element, hv_quote, hv_kind, hv_part, and_self]
theorem hc_thrown (s : hs) (c : qt1) (v : Int32) : hu_thrown (hk s c) v = hk (hu_thrown s v) c := rfl
theorem hc_compiled (s : hs) (c : qt1) (v : Int32) : hu_compiled (hk s c) v = hk (hu_compiled s v) c := rfl
theorem hc_fault (s : hs) (c : qt1) (v : Int32) : hu_fault (hk s c) v = hk (hu_fault s v) c := rfl
theorem hc_holes (s : hs) (c : qt1) (v : Int32) : hu_holes (hk s c) v = hk (hu_holes s v) c := rfl
theorem hc_open (s : hs) (c : qt1) (v : Int32) : hu_open (hk s c) v = hk (hu_open s v) c := rfl
theorem hc_marked (s : hs) (c : qt1) (v : Nat → Int32) : hu_marked (hk s c) v = hk (hu_marked s v) c := rfl
theorem hc_other (s : hs) (c : qt1) (v : Nat → Int32) : hu_other (hk s c) v = hk (hu_other s v) c := rfl
theorem hc_closing (s : hs) (c : qt1) (v : Nat → Int32) : hu_closing (hk s c) v = hk (hu_closing s v) c := rfl
theorem hc_opener (s : hs) (c : qt1) (v : Nat → Int32) : hu_opener (hk s c) v = hk (hu_opener s v) c := rfl
theorem hc_contexts (s : hs) (c : qt1) (v : Nat → Int32) : hu_contexts (hk s c) v = hk (hu_contexts s v) c := rfl
theorem hc_opened (s : hs) (c : qt1) (v : Nat → Int32) : hu_opened (hk s c) v = hk (hu_opened s v) c := rfl
theorem hc_before (s : hs) (c : qt1) (v : Nat → Int32) : hu_before (hk s c) v = hk (hu_before s v) c := rfl
theorem hc_ended (s : hs) (c : qt1) (v : Nat → Int32) : hu_ended (hk s c) v = hk (hu_ended s v) c := rfl
theorem hc_divided (s : hs) (c : qt1) (v : Nat → Int32) : hu_divided (hk s c) v = hk (hu_divided s v) c := rfl
def KJ (s s' : hs) : Prop := hm_typed s' = hm_typed s ∧ hm_row s' = hm_row s ∧ hm_length s' = hm_length s ∧ hm_template s' = hm_template s ∧ hm_counts s' = hm_counts s ∧ hm_lengths s' = hm_lengths s ∧ hm_items s' = hm_items s ∧ hm_alone s' = hm_alone s ∧ hm_size s' = hm_size s ∧ hm_out s' = hm_out s
def KS (s s' : hs) : Prop := hm_symbols s' = hm_symbols s ∧ hm_sort s' = hm_sort s ∧ hm_sign s' = hm_sign s ∧ hm_place s' = hm_place s
def KX (x x' : qt5) : Prop := qg5_count x' = qg5_count x ∧ qg5_kinds x' = qg5_kinds x ∧ qg5_signs x' = qg5_signs x ∧ qg5_variables x' = qg5_variables x ∧ qg5_places x' = qg5_places x ∧ qg5_templateLength x' = qg5_templateLength x
theorem KJ.rfl (s : hs) : KJ s s := ⟨Eq.refl _, Eq.refl _, Eq.refl _, Eq.refl _, Eq.refl _, Eq.refl _, Eq.refl _, Eq.refl _, Eq.refl _, Eq.refl _⟩
theorem KJ.trans {a b c : hs} (h : KJ a b) (h' : KJ b c) : KJ a c := by
  obtain ⟨a1, a2, a3, a4, a5, a6, a7, a8, a9, a10⟩ := h
  obtain ⟨b1, b2, b3, b4, b5, b6, b7, b8, b9, b10⟩ := h'
  exact ⟨b1.trans a1, b2.trans a2, b3.trans a3, b4.trans a4, b5.trans a5, b6.trans a6, b7.trans a7, b8.trans a8, b9.trans a9, b10.trans a10⟩
theorem KJ.hk (s : hs) (c : qt1) : KJ s (hk s c) := by
  unfold KJ
  simp only [hv_hk, and_self]
theorem RS.cong {x x' : qt5} {s s' : hs} {n p : Nat} (h : RS x s n p) (hx : KX x x') (hs' : KS s s') : RS x' s' n p := by
  obtain ⟨x1, x2, x3, x4, x5, x6⟩ := hx
  obtain ⟨s1, s2, s3, s4⟩ := hs'
  unfold RS SY pl at h ⊢
  rw [x1, x2, x3, x4, x5, s1, s2, s3, s4]
  exact h
theorem RS.le {x : qt5} {s : hs} {n p : Nat} (h : RS x s n p) : ∀ d i, n - i ≤ d → i < n → pl s i < p := by
  intro d
  induction d with
  | zero => intro i h1 h2; omega
  | succ d ih =>
    intro i h1 h2
    have := h.2.2.2 i h2
    by_cases h3 : i + 1 < n
    · rw [if_pos h3] at this
      have h4 := ih (i + 1) (by omega) h3
      split at this <;> omega
    · rw [if_neg h3] at this
      split at this <;> omega
def PL (s : hs) (n L i : Nat) : Nat := if i < n then pl s i else L
theorem RS.step {x : qt5} {s : hs} {n L i : Nat} (h : RS x s n L) (hi : i < n) : PL s n L i + (if hm_sort s i = 1 then 3 else 1) ≤ PL s n L (i + 1) ∧ PL s n L (i + 1) ≤ L := by
  unfold PL
  rw [if_pos hi]
  refine ⟨h.2.2.2 i hi, ?_⟩
  by_cases h3 : i + 1 < n
  · rw [if_pos h3]
    have := h.le n (i + 1) (by omega) h3
    omega
  · rw [if_neg h3]
    omega
theorem RS.mono {x : qt5} {s : hs} {n L : Nat} (h : RS x s n L) : ∀ w i, i + w ≤ n → PL s n L i ≤ PL s n L (i + w) := by
  intro w
  induction w with
  | zero => intro i _; exact Nat.le_refl _
  | succ w ih =>
    intro i hi
    have h1 := ih i (by omega)
    have h2 := (h.step (show i + w < n by omega)).1
    have h3 : PL s n L (i + w) ≤ PL s n L (i + w + 1) := by split at h2 <;> omega
    exact Nat.le_trans h1 h3
theorem PL.cong {s s' : hs} (h : KS s s') (n L i : Nat) : PL s' n L i = PL s n L i := by
  unfold PL pl
  rw [h.2.2.2]
/-! the symbols' own questions -/
theorem has1 {x : qt5} {n i : Nat} (h : qg5_count x = Int32.ofNat n) (hn : n ≤ 240) (hi : i < n) : fn5_has x (Int32.ofNat i) = 1 := by
  rw [fq5_has, if_neg (q_pos (by omega)), h, if_neg (fun q => by have := (q_le (by omega) (by omega)).mp q; omega), if_neg (fun q => by have := (q_le (a := 240) (by omega) (by omega)).mp q; omega)]
theorem has0 {x : qt5} {n i : Nat} (h : qg5_count x = Int32.ofNat n) (hn : n ≤ 240) (hi : n ≤ i) (hi' : i < 2147483648) : fn5_has x (Int32.ofNat i) = 0 := by
  rw [fq5_has, if_neg (q_pos (by omega)), h, if_pos ((q_le (by omega) (by omega)).mpr hi)]
theorem wp_has {x : qt5} {n i : Nat} (h : qg5_count x = Int32.ofNat n) (hn : n ≤ 240) (hi' : i < 2147483648) : (True ∧ ((fn5_has x (Int32.ofNat i) = 0 → True) ∧ (¬ fn5_has x (Int32.ofNat i) = 0 → am_inb (Int32.ofNat i) 240 = true))) := by
  refine ⟨trivial, fun _ => trivial, fun q => ?_⟩
  by_cases hi : i < n
  · exact q_inb (by omega) (by omega)
  · exact absurd (has0 h hn (by omega) hi') q
theorem kd {x : qt5} {n i : Nat} (h : qg5_count x = Int32.ofNat n) (hn : n ≤ 240) (hi : i < n) : fn5_kind x (Int32.ofNat i) = qg5_kinds x i := by
  rw [fq5_kind, has1 h hn hi, if_neg (by decide), q_cl (by omega)]
theorem nc {x : qt5} {n i : Nat} (h : qg5_count x = Int32.ofNat n) (hn : n ≤ 240) (hi : i < n) (v : Int32) : fn5_noteCode x (Int32.ofNat i) v = qu5_codes x (upd (qg5_codes x) i v) := by
  rw [fq5_noteCode, has1 h hn hi, if_neg (by decide), q_cl (by omega)]
  rfl
theorem nt {x : qt5} {n i : Nat} (h : qg5_count x = Int32.ofNat n) (hn : n ≤ 240) (hi : i < n) (v : Int32) : fn5_noteTurn x (Int32.ofNat i) v = qu5_turns x (upd (qg5_turns x) i v) := by
  rw [fq5_noteTurn, has1 h hn hi, if_neg (by decide), q_cl (by omega)]
  rfl
theorem ncl {x : qt5} {n i : Nat} (h : qg5_count x = Int32.ofNat n) (hn : n ≤ 240) (hi : i < n) (v : Int32) : fn5_noteClose x (Int32.ofNat i) v = qu5_closes x (upd (qg5_closes x) i v) := by
  rw [fq5_noteClose, has1 h hn hi, if_neg (by decide), q_cl (by omega)]
  rfl
/-! what holds before the i-th symbol is read -/
def BA (x : qt5) (s : hs) (so T C O : Nat → Nat) (L n i : Nat) : Prop := RS x s n L ∧ L ≤ 240 ∧ n ≤ L ∧ i ≤ n ∧ qg5_templateLength x = Int32.ofNat L ∧ hm_length s = Int32.ofNat L ∧ (∀ j, j < n → hm_sort s j = Int32.ofNat (so j) ∧ so j ≤ 6) ∧ (∀ j, j < n → qg5_turns x j = Int32.ofNat (T j) ∧ qg5_closes x j = Int32.ofNat (C j)) ∧ (∀ j, j < i → opn so j → hm_other s j = (if T j = j ∨ T j = C j then -1 else Int32.ofNat (T j)) ∧ (C j ≠ j → hm_closing s j = Int32.ofNat (C j))) ∧ (∀ j, j < i → so j = 4 ∨ so j = 5 → hm_opener s j = Int32.ofNat (O j)) ∧ ∀ j, j < i → so j = 1 → VC (qg5_codes x j) ∧ hm_marked s j = qg5_codes x j
def BH (y : qt0) (s : hs) (H P : Nat) : Prop := H ≤ 80 ∧ qg0_holeCount y = Int32.ofNat H ∧ hm_holes s = Int32.ofNat H ∧ 3 * H ≤ P ∧ ∀ a, a < H → qg0_holeCodes y a = hm_contexts s a
def BK1 (y : qt0) (s : hs) (T : Nat → Nat) (j a : Nat) : Prop := qg0_openSymbols y a = Int32.ofNat j ∧ hm_opened s a = Int32.ofNat j ∧ ∃ d, CX d ∧ qg0_openContexts y a = pkv d ∧ hm_before s a = stv d ∧ ((T j = j ∧ qg0_turnContexts y a = -1 ∧ hm_divided s a = 0 ∧ hm_ended s a = stv d) ∨ (T j ≠ j ∧ ∃ d', CX d' ∧ qg0_turnContexts y a = pkv d' ∧ hm_divided s a = 1 ∧ hm_ended s a = stv d'))
def BK (y : qt0) (s : hs) (T st : Nat → Nat) (k : Nat) : Prop := qg0_openCount y = Int32.ofNat k ∧ hm_open s = Int32.ofNat k ∧ ∀ a, a < k → BK1 y s T (st a) a
def BI (y : qt0) (x : qt5) (c : qt1) (s : hs) (so T C O dep st : Nat → Nat) (L n i k H : Nat) : Prop := BA x s so T C O L n i ∧ BH y s H (PL s n L i) ∧ BK y s T st k ∧ SI so T C O dep st i k ∧ CX c
theorem VC.pos {v : Int32} (h : VC v) : 0 ≤ v ∧ v ≠ -1 := by
  revert v
  decide
theorem nar0 : vp_nar .boolean 0 = 0 := by decide
theorem nar1 : vp_nar .boolean 1 = 1 := by decide
theorem b_hole {y : qt0} {x : qt5} {c : qt1} {s : hs} {so T C O dep st : Nat → Nat} {L n i k H : Nat} (h : BI y x c s so T C O dep st L n i k H) (hi : i < n) (h1 : so i = 1) : wp0_readHole y x c (Int32.ofNat i) ∧ wp10_readHole (hk s c) (Int32.ofNat i) ∧ ((fn0_readHole y x c (Int32.ofNat i) = (0, y, x, c) ∧ fn10_readHole (hk s c) (Int32.ofNat i) = (0, hk s c)) ∨ ∃ y' x' c' s' H', fn0_readHole y x c (Int32.ofNat i) = (1, y', x', c') ∧ fn10_readHole (hk s c) (Int32.ofNat i) = (1, hk s' c') ∧ BI y' x' c' s' so T C O dep st L n (i + 1) k H' ∧ KJ s s') := by
  obtain ⟨⟨a1, a2, a3, a4, a5, a6, a7, a8, a9, a10, a11⟩, ⟨g1, g2, g3, g4, g5⟩, ⟨k1, k2, k3⟩, hS, hX⟩ := h
  have hs1 : hm_sort s i = 1 := (a7 i hi).1.trans (by rw [h1]; rfl)
  have hst := a1.step hi
  rw [if_pos hs1] at hst
  have hH : H < 80 := by omega
  obtain ⟨w1, e1⟩ := cd_eq c
  obtain ⟨w2, e2⟩ := hc_eq s hX
  have hcnt := a1.1
  have hfin : CX (if cdv c = 2 then qu1_part c 1 else c) := by
    split
    · exact hX.p1
    · exact hX
  by_cases hn : cdv c = -1
  · refine ⟨⟨w1, fun _ => trivial, fun q => absurd (e1.trans hn) q⟩, ⟨w2, fun q => ?_, fun _ => trivial⟩, Or.inl ⟨?_, ?_⟩⟩
    · rw [e2, hn] at q
      exact absurd q (by decide)
    · rw [fq0_readHole, e1, if_pos hn]
    · rw [fq10_readHole, e2, hn, if_neg (by decide)]
  · have hv := hX.tab.2.2.2.resolve_left hn
    have h240 : qg0_holeCount y < 240 := by rw [g2]; exact (q_lt (b := 240) (by omega) (by omega)).mpr (by omega)
    refine ⟨⟨w1, fun _ => trivial, fun _ => ⟨fun _ => ⟨wp_has hcnt (by omega) (by omega), ?_⟩, fun _ => trivial⟩⟩, ⟨w2, fun _ => ⟨q_inb (by omega) (by omega), ?_⟩, fun _ => trivial⟩, Or.inr ?_⟩
    · refine ⟨?_, trivial⟩
      rw [g2]
      exact q_inb (by omega) (by omega)
    · refine ⟨?_, trivial⟩
      rw [show hm_holes (ha_marked (hk s c) (Int32.ofNat i).toNatClampNeg (fn10_holeContext (hk s c))) = hm_holes s by simp only [ha_marked, hv_marked, hv_hk], g3]
      exact q_inb (by omega) (by omega)
    · refine ⟨qu0_holeCount (qu0_holeCodes y (upd (qg0_holeCodes y) H (cdv c))) (Int32.ofNat (H + 1)), qu5_codes x (upd (qg5_codes x) i (cdv c)), if cdv c = 2 then qu1_part c 1 else c, hu_holes (hu_contexts (hu_marked s (upd (hm_marked s) i (cdv c))) (upd (hm_contexts s) H (cdv c))) (Int32.ofNat (H + 1)), H + 1, ?_, ?_, ?_, ?_⟩
      · rw [fq0_readHole, e1, if_neg hn, if_pos h240, nc hcnt (by omega) hi]
        unfold fn0_readHole_c34 fn0_readHole_c44 fn0_readHole_c54
        simp only [qa0_holeCodes, qv0_holeCodes, g2, q_cl (show H < 2147483648 by omega), q_1]
        split <;> rfl
      · rw [fq10_readHole, e2, if_pos hv.pos.1]
        unfold fn10_readHole_c18 fn10_readHole_c28 fn10_readHole_c38
        simp only [ha_marked, ha_contexts, hv_marked, hv_contexts, hv_hk, g3, q_cl (show H < 2147483648 by omega), q_cl (show i < 2147483648 by omega), q_1, hc_marked, hc_contexts, hc_holes, hk_part, hk_mpart, CX.self]
        split <;> rfl
      · refine ⟨⟨a1.cong ?_ ?_, a2, a3, by omega, ?_, ?_, ?_, ?_, ?_, ?_, ?_⟩, ⟨by omega, ?_, ?_, ?_, ?_⟩, ⟨?_, ?_, ?_⟩, hS.plain (by omega) (by omega) (by omega) (by omega), hfin⟩
        · unfold KX
          simp only [qv5_codes, and_self]
        · unfold KS
          simp only [hv_holes, hv_contexts, hv_marked, and_self]
        · simp only [qv5_codes]; exact a5
        · simp only [hv_holes, hv_contexts, hv_marked]; exact a6
        · simp only [hv_holes, hv_contexts, hv_marked]; exact a7
        · simp only [qv5_codes]; exact a8
        · simp only [hv_holes, hv_contexts, hv_marked]
          intro j hj ho
          exact a9 j (by have : j ≠ i := fun q => by rw [q] at ho; rcases ho with ho | ho <;> omega
                         omega) ho
        · simp only [hv_holes, hv_contexts, hv_marked]
          intro j hj ho
          exact a10 j (by have : j ≠ i := fun q => by rw [q] at ho; rcases ho with ho | ho <;> omega
                          omega) ho
        · simp only [hv_holes, hv_contexts, hv_marked, qv5_codes]
          intro j hj ho
          by_cases hji : j = i
          · subst hji
            rw [upd_at, upd_at]
            exact ⟨hv, rfl⟩
          · rw [upd_ne hji, upd_ne hji]
            exact a11 j (by omega) ho
        · simp only [qv0_holeCount]
        · simp only [hv_holes]
        · rw [PL.cong (s := s) (by unfold KS; simp only [hv_holes, hv_contexts, hv_marked, and_self])]
          omega
        · simp only [qv0_holeCount, qv0_holeCodes, hv_holes, hv_contexts]
          intro a ha
          by_cases hae : a = H
          · subst hae
            rw [upd_at, upd_at]
          · rw [upd_ne hae, upd_ne hae]
            exact g5 a (by omega)
        · simp only [qv0_holeCount, qv0_holeCodes]; exact k1
        · simp only [hv_holes, hv_contexts, hv_marked]; exact k2
        · unfold BK1
          simp only [qv0_holeCount, qv0_holeCodes, hv_holes, hv_contexts, hv_marked]
          exact k3
      · unfold KJ
        simp only [hv_holes, hv_contexts, hv_marked, and_self]
