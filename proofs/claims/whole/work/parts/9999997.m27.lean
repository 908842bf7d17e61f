/-! writing: what the reference's state keeps -/
def wrs (s : hs) (al : Nat → Int32) (de : Int32) (lo sa a : Nat → Int32) (b c : Int32) : hs := hu_full (hu_size (hu_out (hu_saved (hu_loops (hu_deep (hu_alone s al) de) lo) sa) a) b) c
theorem hv_wrs (s : hs) (al : Nat → Int32) (de : Int32) (lo sa a : Nat → Int32) (b c : Int32) : hm_thrown (wrs s al de lo sa a b c) = hm_thrown s ∧ hm_typed (wrs s al de lo sa a b c) = hm_typed s ∧ hm_length (wrs s al de lo sa a b c) = hm_length s ∧ hm_symbols (wrs s al de lo sa a b c) = hm_symbols s ∧ hm_compiled (wrs s al de lo sa a b c) = hm_compiled s ∧ hm_fault (wrs s al de lo sa a b c) = hm_fault s ∧ hm_holes (wrs s al de lo sa a b c) = hm_holes s ∧ hm_context (wrs s al de lo sa a b c) = hm_context s ∧ hm_element (wrs s al de lo sa a b c) = hm_element s ∧ hm_quote (wrs s al de lo sa a b c) = hm_quote s ∧ hm_kind (wrs s al de lo sa a b c) = hm_kind s ∧ hm_part (wrs s al de lo sa a b c) = hm_part s ∧ hm_open (wrs s al de lo sa a b c) = hm_open s ∧ hm_row (wrs s al de lo sa a b c) = hm_row s ∧ hm_template (wrs s al de lo sa a b c) = hm_template s ∧ hm_sort (wrs s al de lo sa a b c) = hm_sort s ∧ hm_sign (wrs s al de lo sa a b c) = hm_sign s ∧ hm_place (wrs s al de lo sa a b c) = hm_place s ∧ hm_marked (wrs s al de lo sa a b c) = hm_marked s ∧ hm_other (wrs s al de lo sa a b c) = hm_other s ∧ hm_closing (wrs s al de lo sa a b c) = hm_closing s ∧ hm_opener (wrs s al de lo sa a b c) = hm_opener s ∧ hm_contexts (wrs s al de lo sa a b c) = hm_contexts s ∧ hm_opened (wrs s al de lo sa a b c) = hm_opened s ∧ hm_before (wrs s al de lo sa a b c) = hm_before s ∧ hm_ended (wrs s al de lo sa a b c) = hm_ended s ∧ hm_divided (wrs s al de lo sa a b c) = hm_divided s ∧ hm_counts (wrs s al de lo sa a b c) = hm_counts s ∧ hm_lengths (wrs s al de lo sa a b c) = hm_lengths s ∧ hm_items (wrs s al de lo sa a b c) = hm_items s ∧ hm_deep (wrs s al de lo sa a b c) = de ∧ hm_size (wrs s al de lo sa a b c) = b ∧ hm_full (wrs s al de lo sa a b c) = c ∧ hm_alone (wrs s al de lo sa a b c) = al ∧ hm_loops (wrs s al de lo sa a b c) = lo ∧ hm_saved (wrs s al de lo sa a b c) = sa ∧ hm_out (wrs s al de lo sa a b c) = a := by
  unfold wrs
  simp only [hv_full, hv_size, hv_out, hv_saved, hv_loops, hv_deep, hv_alone, and_self]
theorem wrs_2 (s : hs) (al : Nat → Int32) (de : Int32) (lo sa a : Nat → Int32) (b c : Int32) (al' : Nat → Int32) (de' : Int32) (lo' sa' a' : Nat → Int32) (b' c' : Int32) : wrs (wrs s al de lo sa a b c) al' de' lo' sa' a' b' c' = wrs s al' de' lo' sa' a' b' c' := by
  simp only [wrs, hu_full, hu_size, hu_out, hu_saved, hu_loops, hu_deep, hu_alone]
def KW (s s' : hs) : Prop := ∃ al de lo sa a b c, s' = wrs s al de lo sa a b c
theorem KW.rfl (s : hs) : KW s s := ⟨hm_alone s, hm_deep s, hm_loops s, hm_saved s, hm_out s, hm_size s, hm_full s, by
  simp only [wrs, hu_full, hu_size, hu_out, hu_saved, hu_loops, hu_deep, hu_alone, hm_alone, hm_deep, hm_loops, hm_saved, hm_out, hm_size, hm_full]⟩
theorem KW.trans {a b c : hs} (h : KW a b) (h' : KW b c) : KW a c := by
  obtain ⟨a1, a2, a3, a4, a5, a6, a7, rfl⟩ := h
  obtain ⟨b1, b2, b3, b4, b5, b6, b7, rfl⟩ := h'
  exact ⟨b1, b2, b3, b4, b5, b6, b7, wrs_2 ..⟩
theorem KO.kw {s s' : hs} (h : KO s s') : KW s s' ∧ hm_alone s' = hm_alone s ∧ hm_deep s' = hm_deep s ∧ hm_saved s' = hm_saved s := by
  obtain ⟨a, b, c, rfl⟩ := h
  refine ⟨⟨hm_alone s, hm_deep s, hm_loops s, hm_saved s, a, b, c, ?_⟩, ?_⟩
  · simp only [ow, wrs, hu_full, hu_size, hu_out, hu_saved, hu_loops, hu_deep, hu_alone, hm_alone, hm_deep, hm_loops, hm_saved]
  · simp only [ow, hv_full, hv_size, hv_out, and_self]
theorem KW.alone (s : hs) (v : Nat → Int32) : KW s (hu_alone s v) := ⟨v, hm_deep s, hm_loops s, hm_saved s, hm_out s, hm_size s, hm_full s, by
  simp only [wrs, hu_full, hu_size, hu_out, hu_saved, hu_loops, hu_deep, hu_alone, hm_deep, hm_loops, hm_saved, hm_out, hm_size, hm_full]⟩
theorem KW.deep (s : hs) (v : Int32) : KW s (hu_deep s v) := ⟨hm_alone s, v, hm_loops s, hm_saved s, hm_out s, hm_size s, hm_full s, by
  simp only [wrs, hu_full, hu_size, hu_out, hu_saved, hu_loops, hu_deep, hu_alone, hm_alone, hm_loops, hm_saved, hm_out, hm_size, hm_full]⟩
theorem KW.loops (s : hs) (v : Nat → Int32) : KW s (hu_loops s v) := ⟨hm_alone s, hm_deep s, v, hm_saved s, hm_out s, hm_size s, hm_full s, by
  simp only [wrs, hu_full, hu_size, hu_out, hu_saved, hu_loops, hu_deep, hu_alone, hm_alone, hm_deep, hm_saved, hm_out, hm_size, hm_full]⟩
theorem KW.saved (s : hs) (v : Nat → Int32) : KW s (hu_saved s v) := ⟨hm_alone s, hm_deep s, hm_loops s, v, hm_out s, hm_size s, hm_full s, by
  simp only [wrs, hu_full, hu_size, hu_out, hu_saved, hu_loops, hu_deep, hu_alone, hm_alone, hm_deep, hm_loops, hm_out, hm_size, hm_full]⟩
theorem BA.kw {x : qt5} {s s' : hs} {so T C O : Nat → Nat} {L n i : Nat} (h : BA x s so T C O L n i) (hk' : KW s s') : BA x s' so T C O L n i := by
  obtain ⟨al, de, lo, sa, a, b, c, rfl⟩ := hk'
  obtain ⟨a1, a2, a3, a4, a5, a6, a7, a8, a9, a10, a11⟩ := h
  refine ⟨a1.cong ⟨rfl, rfl, rfl, rfl, rfl, rfl⟩ ?_, a2, a3, a4, a5, ?_, ?_, a8, ?_, ?_, ?_⟩
  · unfold KS
    simp only [hv_wrs, and_self]
  · simp only [hv_wrs]; exact a6
  · simp only [hv_wrs]; exact a7
  · simp only [hv_wrs]; exact a9
  · simp only [hv_wrs]; exact a10
  · simp only [hv_wrs]; exact a11
/-- items, with what is alone -/
def WI (m : qt2) (s : hs) : Prop := (∀ v, v < 8 → ∃ k, k ≤ 4 ∧ qg2_counts m v = Int32.ofNat k ∧ hm_counts s v = Int32.ofNat k ∧ ((qg2_alone m v = -1 ∧ hm_alone s v = -1) ∨ ∃ a, 4 * v ≤ a ∧ a < 4 * v + k ∧ qg2_alone m v = Int32.ofNat a ∧ hm_alone s v = Int32.ofNat a)) ∧ (∀ q, q < 32 → ∃ k, k ≤ 40 ∧ qg2_lengths m q = Int32.ofNat k ∧ hm_lengths s q = Int32.ofNat k ∧ ∀ i, i < k → qg2_chars m (q * 40 + i) = hm_items s (40 * q + i) ∧ okc (hm_items s (40 * q + i))) ∧ Jz s
theorem WI.kw {m : qt2} {s s' : hs} (h : WI m s) (hk' : KW s s') (ha : hm_alone s' = hm_alone s) : WI m s' := by
  obtain ⟨al, de, lo, sa, a, b, c, rfl⟩ := hk'
  unfold WI Jz at h ⊢
  rw [ha]
  simp only [hv_wrs]
  exact h
theorem WI.it {m : qt2} {s : hs} (h : WI m s) {q : Nat} (hq : q < 32) : ∃ n g, IT m s (Int32.ofNat q) n g := by
  obtain ⟨k, h1, h2, h3, h4⟩ := h.2.1 q hq
  exact ⟨k, fun i => hm_items s (40 * q + i), h1, fun i hi => (h4 i hi).2, Or.inr ⟨q, hq, Eq.refl _, h2, h3, fun i hi => ⟨(h4 i hi).1, Eq.refl _⟩⟩⟩
theorem isv1 (m : qt2) {v : Nat} (hv : v < 8) : ¬ fn2_isVariable m (Int32.ofNat v) = 0 := by
  rw [v_is, if_pos ⟨Int32.not_lt.mp (q_pos (by omega)), (q_le (b := 7) (by omega) (by omega)).mpr (by omega)⟩]
  decide
theorem w_from (m : qt2) {v : Nat} (hv : v < 8) : wp2_from m (Int32.ofNat v) ∧ wp2_upTo m (Int32.ofNat v) ∧ wp2_lone m (Int32.ofNat v) ∧ wp2_first m (Int32.ofNat v) ∧ ∀ z, wp2_leaveAlone m (Int32.ofNat v) z := by
  have hin : am_inb (Int32.ofNat v) 8 = true := q_inb hv (by omega)
  have w1 : wp2_from m (Int32.ofNat v) := ⟨trivial, fun _ => trivial, fun _ => ⟨hin, fun _ => trivial, fun _ => hin⟩⟩
  have w2 : wp2_upTo m (Int32.ofNat v) := ⟨trivial, fun _ => trivial, fun _ => ⟨hin, fun _ => hin, fun _ => hin⟩⟩
  exact ⟨w1, w2, ⟨trivial, fun _ => trivial, fun _ => hin⟩, ⟨w1, w2, fun _ => trivial, fun _ => w1⟩, fun z => ⟨trivial, fun _ => trivial, fun _ => hin⟩⟩
theorem leave (m : qt2) {v : Nat} (hv : v < 8) (z : Int32) : fn2_leaveAlone m (Int32.ofNat v) z = qa2_alone m v z := by
  rw [fq2_leaveAlone, if_neg (isv1 m hv), q_cl (by omega)]
/-- the items that a variable has: from c up to e -/
theorem WI.rng {m : qt2} {s : hs} (h : WI m s) {v : Nat} (hv : v < 8) : ∃ c e : Nat, c ≤ e ∧ e ≤ c + 4 ∧ e ≤ 32 ∧ fn2_from m (Int32.ofNat v) = Int32.ofNat c ∧ fn2_upTo m (Int32.ofNat v) = Int32.ofNat e ∧ fn2_lone m (Int32.ofNat v) = qg2_alone m v ∧ qg2_alone m v = hm_alone s v ∧ wp10_firstItem s (Int32.ofNat v) ∧ fn10_firstItem s (Int32.ofNat v) = (if c < e then Int32.ofNat c else -1) ∧ fn2_first m (Int32.ofNat v) = (if c < e then Int32.ofNat c else -1) ∧ 4 * v ≤ c ∧ ∃ k, k ≤ 4 ∧ qg2_counts m v = Int32.ofNat k ∧ hm_counts s v = Int32.ofNat k ∧ e ≤ 4 * v + k ∧ ((hm_alone s v = -1 ∧ e = 4 * v + k) ∨ (hm_alone s v = Int32.ofNat c ∧ e = c + 1)) := by
  obtain ⟨k, h1, h2, h3, h4⟩ := h.1 v hv
  have hin : am_inb (Int32.ofNat v) 8 = true := q_inb hv (by omega)
  have c1 : (Int32.ofNat v).toNatClampNeg = v := q_cl (by omega)
  have wf : wp10_firstItem s (Int32.ofNat v) := ⟨hin, fun _ => hin, fun _ => hin⟩
  have hv1 := isv1 m hv
  have e4 : Int32.ofNat v * 4 = Int32.ofNat (4 * v) := by rw [show (4 : Int32) = Int32.ofNat 4 from rfl, q_mul, Nat.mul_comm]
  have e4' : 4 * Int32.ofNat v = Int32.ofNat (4 * v) := by rw [show (4 : Int32) = Int32.ofNat 4 from rfl, q_mul]
  have el : fn2_lone m (Int32.ofNat v) = qg2_alone m v := by rw [fq2_lone, if_neg hv1, c1]
  rcases h4 with ⟨a1, a2⟩ | ⟨a, b1, b2, a1, a2⟩
  · have ef : fn2_from m (Int32.ofNat v) = Int32.ofNat (4 * v) := by rw [fq2_from, if_neg hv1, c1, if_pos a1, e4]
    have eu : fn2_upTo m (Int32.ofNat v) = Int32.ofNat (4 * v + k) := by rw [fq2_upTo, if_neg hv1, c1, if_pos a1, e4, h2, q_add]
    refine ⟨4 * v, 4 * v + k, by omega, by omega, by omega, ef, eu, el, by rw [a1, a2], wf, ?_, ?_, by omega, k, h1, h2, h3, by omega, Or.inl ⟨a2, Eq.refl _⟩⟩
    · rw [fq10_firstItem, c1, a2, if_pos (by decide), h3, e4']
      by_cases hk0 : k = 0
      · subst hk0
        rw [if_pos (by decide), if_neg (by omega)]
      · rw [if_neg (fun q => by have := (q_le (b := 0) (by omega) (by omega)).mp q; omega), if_pos (by omega)]
    · rw [fq2_first, ef, eu]
      by_cases hk0 : k = 0
      · subst hk0
        rw [if_pos ((q_le (by omega) (by omega)).mpr (by omega)), if_neg (by omega)]
      · rw [if_neg (fun q => by have := (q_le (by omega) (by omega)).mp q; omega), if_pos (by omega)]
  · have hne : ¬ qg2_alone m v = -1 := by
      rw [a1]
      exact fun q => absurd (show Int32.ofNat a < 0 by rw [q]; decide) (q_pos (by omega))
    have ef : fn2_from m (Int32.ofNat v) = Int32.ofNat a := by rw [fq2_from, if_neg hv1, c1, if_neg hne, a1]
    have eu : fn2_upTo m (Int32.ofNat v) = Int32.ofNat (a + 1) := by rw [fq2_upTo, if_neg hv1, c1, if_neg hne, a1, q_1]
    refine ⟨a, a + 1, by omega, by omega, by omega, ef, eu, el, by rw [a1, a2], wf, ?_, ?_, b1, k, h1, h2, h3, by omega, Or.inr ⟨a2, Eq.refl _⟩⟩
    · rw [fq10_firstItem, c1, a2, if_neg (q_pos (by omega)), if_pos (by omega)]
    · rw [fq2_first, ef, eu, if_neg (fun q => by have := (q_le (by omega) (by omega)).mp q; omega), if_pos (by omega)]
theorem WI.first {m : qt2} {s : hs} (h : WI m s) {v : Nat} (hv : v < 8) : wp2_first m (Int32.ofNat v) ∧ wp10_firstItem s (Int32.ofNat v) ∧ ∃ q n g, fn2_first m (Int32.ofNat v) = q ∧ fn10_firstItem s (Int32.ofNat v) = q ∧ IT m s q n g := by
  obtain ⟨c, e, g1, g2, g3, g4, g5, g6, g7, g8, g9, g10, -⟩ := h.rng hv
  refine ⟨(w_from m hv).2.2.2.1, g8, ?_⟩
  by_cases hce : c < e
  · rw [if_pos hce] at g9 g10
    obtain ⟨n, g, hit⟩ := h.it (q := c) (by omega)
    exact ⟨_, n, g, g10, g9, hit⟩
  · rw [if_neg hce] at g9 g10
    exact ⟨-1, 0, fun _ => 0, g10, g9, by omega, fun i hi => by omega, Or.inl ⟨Eq.refl _, Eq.refl _⟩⟩
/-! runs of the reference's loop -/
def RN (s : hs) (a : Nat) (s' : hs) (b N : Nat) : Prop := ∃ N', N' ≤ N ∧ ∀ fu, fn10_write_c42 (fu + N') s (Int32.ofNat a) = fn10_write_c42 fu s' (Int32.ofNat b) ∧ (wp10_write_c42 fu s' (Int32.ofNat b) → wp10_write_c42 (fu + N') s (Int32.ofNat a))
theorem RN.rfl (s : hs) (a N : Nat) : RN s a s a N := ⟨0, Nat.zero_le _, fun fu => ⟨Eq.refl _, fun h => h⟩⟩
theorem RN.trans {s s' s'' : hs} {a b c N M P : Nat} (h : RN s a s' b N) (h' : RN s' b s'' c M) (hp : N + M ≤ P) : RN s a s'' c P := by
  obtain ⟨n1, l1, r1⟩ := h
  obtain ⟨n2, l2, r2⟩ := h'
  refine ⟨n2 + n1, by omega, fun fu => ?_⟩
  obtain ⟨e1, w1⟩ := r1 (fu + n2)
  obtain ⟨e2, w2⟩ := r2 fu
  rw [← Nat.add_assoc]
  exact ⟨e1.trans e2, fun q => w1 (w2 q)⟩
theorem RN.mono {s s' : hs} {a b N M : Nat} (h : RN s a s' b N) (hp : N ≤ M) : RN s a s' b M := by
  obtain ⟨n1, l1, r1⟩ := h
  exact ⟨n1, by omega, r1⟩
theorem RN.one {s s' : hs} {a b : Nat} (h : ∀ fu, fn10_write_c42 (fu + 1) s (Int32.ofNat a) = fn10_write_c42 fu s' (Int32.ofNat b) ∧ (wp10_write_c42 fu s' (Int32.ofNat b) → wp10_write_c42 (fu + 1) s (Int32.ofNat a))) : RN s a s' b 1 := ⟨1, Nat.le_refl _, h⟩
/-! a symbol's variable -/
theorem BA.vr {x : qt5} {s : hs} {so T C O : Nat → Nat} {L n i p : Nat} (h : BA x s so T C O L n i) (hp : p < n) (h1 : 1 ≤ so p) (h3 : so p ≤ 3) : ∃ v, v < 8 ∧ fn5_variable x (Int32.ofNat p) = Int32.ofNat v ∧ fn10_variable s (Int32.ofNat p) = Int32.ofNat v ∧ wp5_variable x (Int32.ofNat p) ∧ wp10_variable s (Int32.ofNat p) := by
  obtain ⟨a1, a2, a3, a4, a5, a6, a7, -⟩ := h
  obtain ⟨so', g1, g2, g3, g4, g5, g6, g7, g8, g9⟩ := a1.2.2.1 p hp
  have : so' = so p := (q_eq (by omega) (by omega)).mp (g2.symm.trans (a7 p hp).1)
  obtain ⟨k1, k2⟩ := g9 (by omega) (by omega)
  have h0 : ¬ hm_sign s p < 0 := by
    intro q
    have : (97 : Int32) < 0 := Int32.lt_of_le_of_lt k1 q
    exact absurd this (by decide)
  obtain ⟨w, hw, ew⟩ := q_of h0
  rw [ew] at k1 k2
  have l1 := (q_le (a := 97) (by omega) hw).mp k1
  have l2 := (q_le (b := 104) hw (by omega)).mp k2
  have es : hm_sign s p - 97 = Int32.ofNat (w - 97) := by rw [ew]; exact q_sub (b := 97) l1
  refine ⟨w - 97, by omega, ?_, ?_, wp_has a1.1 (by omega) (by omega), q_inb (by omega) (by omega)⟩
  · rw [fq5_variable, has1 a1.1 (by omega) hp, if_neg (by decide), q_cl (by omega), g5, es]
  · rw [fq10_variable, q_cl (by omega), es]
