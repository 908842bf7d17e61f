/-! characters of the template, and loops over them -/
def hk (s : hs) (c : qt1) : hs := hu_part (hu_kind (hu_quote (hu_element (hu_context s (qg1_name c)) (qg1_element c)) (qg1_quote c)) (qg1_kind c)) (qg1_part c)
theorem hk_name (s : hs) (c : qt1) (v : Int32) : hu_context (hk s c) v = hk s (qu1_name c v) := rfl
theorem hk_element (s : hs) (c : qt1) (v : Int32) : hu_element (hk s c) v = hk s (qu1_element c v) := rfl
theorem hk_quote (s : hs) (c : qt1) (v : Int32) : hu_quote (hk s c) v = hk s (qu1_quote c v) := rfl
theorem hk_kind (s : hs) (c : qt1) (v : Int32) : hu_kind (hk s c) v = hk s (qu1_kind c v) := rfl
theorem hk_part (s : hs) (c : qt1) (v : Int32) : hu_part (hk s c) v = hk s (qu1_part c v) := rfl
theorem hk_mname (s : hs) (c : qt1) : hm_context (hk s c) = qg1_name c := by
  have e : hm_context (hk s c) = qg1_name c := rfl
  exact e
theorem hk_melement (s : hs) (c : qt1) : hm_element (hk s c) = qg1_element c := by
  have e : hm_element (hk s c) = qg1_element c := rfl
  exact e
theorem hk_mquote (s : hs) (c : qt1) : hm_quote (hk s c) = qg1_quote c := by
  have e : hm_quote (hk s c) = qg1_quote c := rfl
  exact e
theorem hk_mkind (s : hs) (c : qt1) : hm_kind (hk s c) = qg1_kind c := by
  have e : hm_kind (hk s c) = qg1_kind c := rfl
  exact e
theorem hk_mpart (s : hs) (c : qt1) : hm_part (hk s c) = qg1_part c := by
  have e : hm_part (hk s c) = qg1_part c := rfl
  exact e
theorem hk_go (s : hs) (c : qt1) (v : Int32) : fn10_go (hk s c) v = hk s (fn1_enter c v) := by
  rw [fq10_go, fq1_enter]
  rfl
theorem q_2 (a : Nat) : Int32.ofNat a + 2 = Int32.ofNat (a + 2) := q_add a 2
theorem q_3 (a : Nat) : Int32.ofNat a + 3 = Int32.ofNat (a + 3) := q_add a 3
theorem q_4 (a : Nat) : Int32.ofNat a + 4 = Int32.ofNat (a + 4) := q_add a 4
theorem q_5 (a : Nat) : Int32.ofNat a + 5 = Int32.ofNat (a + 5) := q_add a 5
theorem q_6 (a : Nat) : Int32.ofNat a + 6 = Int32.ofNat (a + 6) := q_add a 6
theorem q_7 (a : Nat) : Int32.ofNat a + 7 = Int32.ofNat (a + 7) := q_add a 7
theorem q_8 (a : Nat) : Int32.ofNat a + 8 = Int32.ofNat (a + 8) := q_add a 8
theorem q_9 (a : Nat) : Int32.ofNat a + 9 = Int32.ofNat (a + 9) := q_add a 9
/-- the characters: g a is the a-th symbol's character, or 0 -/
def CH (x : qt5) (s : hs) (n : Nat) (g : Nat → Int32) : Prop := qg5_count x = Int32.ofNat n ∧ hm_symbols s = Int32.ofNat n ∧ n ≤ 240 ∧ (∀ a, g a ≠ 0 → a < n ∧ okc (g a)) ∧ ∀ a, a < n → qg5_signs x a = g a ∧ (if hm_sort s a = 0 then hm_sign s a = g a else g a = 0)
theorem CH.b {x : qt5} {s : hs} {n : Nat} {g : Nat → Int32} (h : CH x s n g) (a : Nat) : 0 ≤ g a ∧ g a ≤ 65535 := by
  by_cases h0 : g a = 0
  · rw [h0]; decide
  · exact (h.2.2.2.1 a h0).2.b
theorem CH.sign {x : qt5} {s : hs} {n : Nat} {g : Nat → Int32} (h : CH x s n g) {a : Nat} (ha : a < 2147483648) : fn5_sign x (Int32.ofNat a) = g a := by
  have hc : qg5_count x ≤ Int32.ofNat a ↔ n ≤ a := by rw [h.1]; exact q_le (by have := h.2.2.1; omega) ha
  rw [fq5_sign, if_neg (q_pos ha)]
  by_cases hn : n ≤ a
  · rw [if_pos (hc.mpr hn)]
    by_cases h0 : g a = 0
    · exact h0.symm
    · have := (h.2.2.2.1 a h0).1; omega
  · have h240 : ¬ (240 : Int32) ≤ Int32.ofNat a := fun q => by have := (q_le (a := 240) (by omega) ha).mp q; have := h.2.2.1; omega
    rw [if_neg (fun q => hn (hc.mp q)), if_neg h240, q_cl ha]
    exact (h.2.2.2.2 a (by omega)).1
theorem CH.wsign {x : qt5} {s : hs} {n : Nat} {g : Nat → Int32} (h : CH x s n g) {a : Nat} (ha : a < 2147483648) : wp5_sign x (Int32.ofNat a) := by
  have hc : qg5_count x ≤ Int32.ofNat a ↔ n ≤ a := by rw [h.1]; exact q_le (by have := h.2.2.1; omega) ha
  refine ⟨fun _ => trivial, fun _ => ⟨fun _ => trivial, fun h1 => ⟨fun _ => trivial, fun _ => ?_⟩⟩⟩
  rw [hc] at h1
  have := h.2.2.1
  refine ⟨q_inb (by omega) (by omega), ?_⟩
  rw [q_cl ha, (h.2.2.2.2 a (by omega)).1]
  exact q_fit (h.b a).1 (h.b a).2
theorem CH.ch {x : qt5} {s : hs} {n : Nat} {g : Nat → Int32} (h : CH x s n g) (c : qt1) {a : Nat} (ha : a < 2147483648) : fn10_ch (hk s c) (Int32.ofNat a) = g a := by
  have hc : hm_symbols (hk s c) ≤ Int32.ofNat a ↔ n ≤ a := by rw [show hm_symbols (hk s c) = hm_symbols s from rfl, h.2.1]; exact q_le (by have := h.2.2.1; omega) ha
  rw [fq10_ch]
  by_cases hn : n ≤ a
  · rw [if_pos (hc.mpr hn)]
    by_cases h0 : g a = 0
    · exact h0.symm
    · have := (h.2.2.2.1 a h0).1; omega
  · have h3 := (h.2.2.2.2 a (by omega)).2
    rw [if_neg (fun q => hn (hc.mp q)), q_cl ha]
    show (if hm_sort s a = 0 then hm_sign s a else 0) = g a
    by_cases h4 : hm_sort s a = 0
    · rw [if_pos h4] at h3 ⊢
      exact h3
    · rw [if_neg h4] at h3 ⊢
      exact h3.symm
theorem CH.wch {x : qt5} {s : hs} {n : Nat} {g : Nat → Int32} (h : CH x s n g) (c : qt1) {a : Nat} (ha : a < 2147483648) : wp10_ch (hk s c) (Int32.ofNat a) := by
  have hc : hm_symbols (hk s c) ≤ Int32.ofNat a ↔ n ≤ a := by rw [show hm_symbols (hk s c) = hm_symbols s from rfl, h.2.1]; exact q_le (by have := h.2.2.1; omega) ha
  refine ⟨fun _ => trivial, fun h1 => ?_⟩
  rw [hc] at h1
  have := h.2.2.1
  refine ⟨q_inb (by omega) (by omega), fun h2 => ⟨q_inb (by omega) (by omega), ?_⟩, fun _ => trivial⟩
  rw [q_cl ha] at h2 ⊢
  have h3 := (h.2.2.2.2 a (by omega)).2
  have h4 : hm_sort s a = 0 := h2
  rw [if_pos h4] at h3
  have h5 : hm_sign (hk s c) a = g a := h3
  rw [h5]
  exact q_fit (h.b a).1 (h.b a).2
theorem CH.cnt {x : qt5} {s : hs} {n : Nat} {g : Nat → Int32} (h : CH x s n g) {a : Nat} (ha : a < 2147483648) : qg5_count x ≤ Int32.ofNat a ↔ n ≤ a := by
  rw [h.1]; exact q_le (by have := h.2.2.1; omega) ha
theorem CH.z {x : qt5} {s : hs} {n : Nat} {g : Nat → Int32} (h : CH x s n g) {a : Nat} (ha : n ≤ a) : g a = 0 := by
  by_cases h0 : g a = 0
  · exact h0
  · have := (h.2.2.2.1 a h0).1; omega
/-! sets of characters -/
theorem il4 (c : Int32) : fn4_isLetter c = 0 ↔ ¬ (97 ≤ c ∧ c ≤ 122) := by rw [fq4_isLetter]; grind
theorem il10 (c : Int32) : fn10_isLetter c = 0 ↔ ¬ (97 ≤ c ∧ c ≤ 122) := by rw [fq10_isLetter]; grind
theorem ib4 (c : Int32) : fn4_isBlank c = 0 ↔ ¬ (c = 32 ∨ c = 10) := by rw [fq4_isBlank]; grind
theorem ib10 (c : Int32) : fn10_isBlank c = 0 ↔ ¬ (c = 32 ∨ c = 10) := by rw [fq10_isBlank]; grind
abbrev wd (c : Int32) : Prop := (97 ≤ c ∧ c ≤ 122) ∨ (65 ≤ c ∧ c ≤ 90) ∨ (48 ≤ c ∧ c ≤ 57)
theorem iw4 (c : Int32) : fn4_isLetterOrDigit c = 0 ↔ ¬ wd c := by rw [fq4_isLetterOrDigit]; unfold fn4_isLetterOrDigit_c12 fn4_isLetterOrDigit_c24 fn4_isLetterOrDigit_c36 wd; grind
theorem iw10 (c : Int32) : fn10_isWord c = 0 ↔ ¬ wd c := by rw [fq10_isWord]; simp only [il10]; unfold fn10_isWord_c19 fn10_isWord_c31 wd; grind
theorem ww4 (c : Int32) : wp4_isLetterOrDigit c := by
  unfold wp4_isLetterOrDigit wp4_isLetterOrDigit_c12 wp4_isLetterOrDigit_c24 wp4_isLetterOrDigit_c36
  simp
theorem ww10 (c : Int32) : wp10_isWord c := by
  unfold wp10_isWord wp10_isWord_c19 wp10_isWord_c31 wp10_isLetter
  simp
abbrev Le (c : Int32) : Prop := 97 ≤ c ∧ c ≤ 122
abbrev Bl (c : Int32) : Prop := c = 32 ∨ c = 10
theorem l_letters {x : qt5} {s : hs} {n : Nat} {g : Nat → Int32} (h : CH x s n g) : ∀ (d a fu fu' : Nat), n - a ≤ d → d < fu → d < fu' → a ≤ 100000 → ∃ b, a ≤ b ∧ b ≤ a + d ∧ (∀ j, a ≤ j → j < b → Le (g j)) ∧ ¬ Le (g b) ∧ wp5_behindLetters_c2 fu x (Int32.ofNat a) ∧ fn5_behindLetters_c2 fu x (Int32.ofNat a) = Int32.ofNat b ∧ ∀ (c : qt1) (a0 : Nat), a0 ≤ a → wp10_lettersFrom_c2 fu' (hk s c) (Int32.ofNat a0) (Int32.ofNat (a - a0)) ∧ fn10_lettersFrom_c2 fu' (hk s c) (Int32.ofNat a0) (Int32.ofNat (a - a0)) = Int32.ofNat (b - a0) := by
  intro d
  induction d with
  | zero =>
    intro a fu fu' hd hf hf' ha
    obtain ⟨fu, rfl⟩ : ∃ f, fu = f + 1 := ⟨fu - 1, by omega⟩
    obtain ⟨fu', rfl⟩ : ∃ f, fu' = f + 1 := ⟨fu' - 1, by omega⟩
    have hz := h.z (show n ≤ a by omega)
    have hP : ¬ Le (g a) := by rw [hz]; unfold Le; decide
    have hc := (h.cnt (show a < 2147483648 by omega)).mpr (by omega)
    refine ⟨a, by omega, by omega, fun j h1 h2 => by omega, hP, ⟨fun _ => trivial, fun q => absurd hc q⟩, ?_, fun c a0 h0 => ?_⟩
    · unfold fn5_behindLetters_c2
      rw [if_pos hc]
    · have e : Int32.ofNat a0 + Int32.ofNat (a - a0) = Int32.ofNat a := by rw [q_add, Nat.add_sub_cancel' h0]
      have e2 : fn10_lettersFrom_c2 (fu' + 1) (hk s c) (Int32.ofNat a0) (Int32.ofNat (a - a0)) = Int32.ofNat (a - a0) := by
        unfold fn10_lettersFrom_c2
        rw [e, h.ch c (by omega), if_pos ((il10 _).mpr hP)]
      refine ⟨?_, e2⟩
      unfold wp10_lettersFrom_c2
      rw [e, h.ch c (by omega)]
      exact ⟨h.wch c (by omega), trivial, fun _ => trivial, fun q => absurd ((il10 _).mpr hP) q⟩
  | succ d ih =>
    intro a fu fu' hd hf hf' ha
    obtain ⟨fu, rfl⟩ : ∃ f, fu = f + 1 := ⟨fu - 1, by omega⟩
    obtain ⟨fu', rfl⟩ : ∃ f, fu' = f + 1 := ⟨fu' - 1, by omega⟩
    by_cases hP : Le (g a)
    · have hn : a < n := by
        have : g a ≠ 0 := fun q => by rw [q] at hP; unfold Le at hP; revert hP; decide
        exact (h.2.2.2.1 a this).1
      have hc : ¬ qg5_count x ≤ Int32.ofNat a := fun q => by have := (h.cnt (show a < 2147483648 by omega)).mp q; omega
      obtain ⟨b, b1, b2, b3, b4, b5, b6, b7⟩ := ih (a + 1) fu fu' (by omega) (by omega) (by omega) (by have := h.2.2.1; omega)
      refine ⟨b, by omega, by omega, fun j h1 h2 => ?_, b4, ?_, ?_, fun c a0 h0 => ?_⟩
      · by_cases hj : j = a
        · rw [hj]; exact hP
        · exact b3 j (by omega) h2
      · unfold wp5_behindLetters_c2
        rw [h.sign (by omega), q_1]
        exact ⟨fun q => absurd q hc, fun _ => ⟨h.wsign (by omega), trivial, fun q => absurd hP ((il4 _).mp q), fun _ => b5⟩⟩
      · unfold fn5_behindLetters_c2
        rw [if_neg hc, h.sign (by omega), if_neg (fun q => absurd hP ((il4 _).mp q)), q_1]
        exact b6
      · have e : Int32.ofNat a0 + Int32.ofNat (a - a0) = Int32.ofNat a := by rw [q_add, Nat.add_sub_cancel' h0]
        obtain ⟨k1, k2⟩ := b7 c a0 (by omega)
        rw [show a + 1 - a0 = a - a0 + 1 by omega] at k1 k2
        refine ⟨?_, ?_⟩
        · unfold wp10_lettersFrom_c2
          rw [e, h.ch c (by omega), q_1]
          exact ⟨h.wch c (by omega), trivial, fun q => absurd hP ((il10 _).mp q), fun _ => k1⟩
        · unfold fn10_lettersFrom_c2
          rw [e, h.ch c (by omega), if_neg (fun q => absurd hP ((il10 _).mp q)), q_1]
          exact k2
    · refine ⟨a, by omega, by omega, fun j h1 h2 => by omega, hP, ?_, ?_, fun c a0 h0 => ?_⟩
      · unfold wp5_behindLetters_c2
        rw [h.sign (by omega)]
        exact ⟨fun _ => trivial, fun _ => ⟨h.wsign (by omega), trivial, fun _ => trivial, fun q => absurd ((il4 _).mpr hP) q⟩⟩
      · unfold fn5_behindLetters_c2
        rw [h.sign (by omega), if_pos ((il4 _).mpr hP)]
        exact ite_self _
      · have e : Int32.ofNat a0 + Int32.ofNat (a - a0) = Int32.ofNat a := by rw [q_add, Nat.add_sub_cancel' h0]
        refine ⟨?_, ?_⟩
        · unfold wp10_lettersFrom_c2
          rw [e, h.ch c (by omega)]
          exact ⟨h.wch c (by omega), trivial, fun _ => trivial, fun q => absurd ((il10 _).mpr hP) q⟩
        · unfold fn10_lettersFrom_c2
          rw [e, h.ch c (by omega), if_pos ((il10 _).mpr hP)]
theorem CH.letters {x : qt5} {s : hs} {n : Nat} {g : Nat → Int32} (h : CH x s n g) {a : Nat} (ha : a ≤ 1000) : ∃ b, a ≤ b ∧ b ≤ a + 240 ∧ (∀ j, a ≤ j → j < b → Le (g j)) ∧ ¬ Le (g b) ∧ wp5_behindLetters x (Int32.ofNat a) ∧ fn5_behindLetters x (Int32.ofNat a) = Int32.ofNat b ∧ ∀ c : qt1, wp10_lettersFrom (hk s c) (Int32.ofNat a) ∧ fn10_lettersFrom (hk s c) (Int32.ofNat a) = Int32.ofNat (b - a) := by
  obtain ⟨b, b1, b2, b3, b4, b5, b6, b7⟩ := l_letters h 240 a hg_fu hg_fu (by have := h.2.2.1; omega) (by rw [hg_fu_eq]; omega) (by rw [hg_fu_eq]; omega) (by omega)
  refine ⟨b, b1, b2, b3, b4, b5, by rw [fq5_behindLetters]; exact b6, fun c => ?_⟩
  have := b7 c a (Nat.le_refl _)
  rw [Nat.sub_self] at this
  exact ⟨this.1, by rw [fq10_lettersFrom]; exact this.2⟩
theorem l_blanks {x : qt5} {s : hs} {n : Nat} {g : Nat → Int32} (h : CH x s n g) : ∀ (d a fu fu' : Nat), n - a ≤ d → d < fu → d < fu' → a ≤ 100000 → ∃ b, a ≤ b ∧ b ≤ a + d ∧ (∀ j, a ≤ j → j < b → Bl (g j)) ∧ ¬ Bl (g b) ∧ wp5_behindBlanks_c2 fu x (Int32.ofNat a) ∧ fn5_behindBlanks_c2 fu x (Int32.ofNat a) = Int32.ofNat b ∧ ∀ (c : qt1) (a0 : Nat), a0 ≤ a → wp10_blanksFrom_c2 fu' (hk s c) (Int32.ofNat a0) (Int32.ofNat (a - a0)) ∧ fn10_blanksFrom_c2 fu' (hk s c) (Int32.ofNat a0) (Int32.ofNat (a - a0)) = Int32.ofNat (b - a0) := by
  intro d
  induction d with
  | zero =>
    intro a fu fu' hd hf hf' ha
    obtain ⟨fu, rfl⟩ : ∃ f, fu = f + 1 := ⟨fu - 1, by omega⟩
    obtain ⟨fu', rfl⟩ : ∃ f, fu' = f + 1 := ⟨fu' - 1, by omega⟩
    have hz := h.z (show n ≤ a by omega)
    have hP : ¬ Bl (g a) := by rw [hz]; unfold Bl; decide
    have hc := (h.cnt (show a < 2147483648 by omega)).mpr (by omega)
    refine ⟨a, by omega, by omega, fun j h1 h2 => by omega, hP, ⟨fun _ => trivial, fun q => absurd hc q⟩, ?_, fun c a0 h0 => ?_⟩
    · unfold fn5_behindBlanks_c2
      rw [if_pos hc]
    · have e : Int32.ofNat a0 + Int32.ofNat (a - a0) = Int32.ofNat a := by rw [q_add, Nat.add_sub_cancel' h0]
      have e2 : fn10_blanksFrom_c2 (fu' + 1) (hk s c) (Int32.ofNat a0) (Int32.ofNat (a - a0)) = Int32.ofNat (a - a0) := by
        unfold fn10_blanksFrom_c2
        rw [e, h.ch c (by omega), if_pos ((ib10 _).mpr hP)]
      refine ⟨?_, e2⟩
      unfold wp10_blanksFrom_c2
      rw [e, h.ch c (by omega)]
      exact ⟨h.wch c (by omega), trivial, fun _ => trivial, fun q => absurd ((ib10 _).mpr hP) q⟩
  | succ d ih =>
    intro a fu fu' hd hf hf' ha
    obtain ⟨fu, rfl⟩ : ∃ f, fu = f + 1 := ⟨fu - 1, by omega⟩
    obtain ⟨fu', rfl⟩ : ∃ f, fu' = f + 1 := ⟨fu' - 1, by omega⟩
    by_cases hP : Bl (g a)
    · have hn : a < n := by
        have : g a ≠ 0 := fun q => by rw [q] at hP; unfold Bl at hP; revert hP; decide
        exact (h.2.2.2.1 a this).1
      have hc : ¬ qg5_count x ≤ Int32.ofNat a := fun q => by have := (h.cnt (show a < 2147483648 by omega)).mp q; omega
      obtain ⟨b, b1, b2, b3, b4, b5, b6, b7⟩ := ih (a + 1) fu fu' (by omega) (by omega) (by omega) (by have := h.2.2.1; omega)
      refine ⟨b, by omega, by omega, fun j h1 h2 => ?_, b4, ?_, ?_, fun c a0 h0 => ?_⟩
      · by_cases hj : j = a
        · rw [hj]; exact hP
        · exact b3 j (by omega) h2
      · unfold wp5_behindBlanks_c2
        rw [h.sign (by omega), q_1]
        exact ⟨fun q => absurd q hc, fun _ => ⟨h.wsign (by omega), trivial, fun q => absurd hP ((ib4 _).mp q), fun _ => b5⟩⟩
      · unfold fn5_behindBlanks_c2
        rw [if_neg hc, h.sign (by omega), if_neg (fun q => absurd hP ((ib4 _).mp q)), q_1]
        exact b6
      · have e : Int32.ofNat a0 + Int32.ofNat (a - a0) = Int32.ofNat a := by rw [q_add, Nat.add_sub_cancel' h0]
        obtain ⟨k1, k2⟩ := b7 c a0 (by omega)
        rw [show a + 1 - a0 = a - a0 + 1 by omega] at k1 k2
        refine ⟨?_, ?_⟩
        · unfold wp10_blanksFrom_c2
          rw [e, h.ch c (by omega), q_1]
          exact ⟨h.wch c (by omega), trivial, fun q => absurd hP ((ib10 _).mp q), fun _ => k1⟩
        · unfold fn10_blanksFrom_c2
          rw [e, h.ch c (by omega), if_neg (fun q => absurd hP ((ib10 _).mp q)), q_1]
          exact k2
    · refine ⟨a, by omega, by omega, fun j h1 h2 => by omega, hP, ?_, ?_, fun c a0 h0 => ?_⟩
      · unfold wp5_behindBlanks_c2
        rw [h.sign (by omega)]
        exact ⟨fun _ => trivial, fun _ => ⟨h.wsign (by omega), trivial, fun _ => trivial, fun q => absurd ((ib4 _).mpr hP) q⟩⟩
      · unfold fn5_behindBlanks_c2
        rw [h.sign (by omega), if_pos ((ib4 _).mpr hP)]
        exact ite_self _
      · have e : Int32.ofNat a0 + Int32.ofNat (a - a0) = Int32.ofNat a := by rw [q_add, Nat.add_sub_cancel' h0]
        refine ⟨?_, ?_⟩
        · unfold wp10_blanksFrom_c2
          rw [e, h.ch c (by omega)]
          exact ⟨h.wch c (by omega), trivial, fun _ => trivial, fun q => absurd ((ib10 _).mpr hP) q⟩
        · unfold fn10_blanksFrom_c2
          rw [e, h.ch c (by omega), if_pos ((ib10 _).mpr hP)]
theorem CH.blanks {x : qt5} {s : hs} {n : Nat} {g : Nat → Int32} (h : CH x s n g) {a : Nat} (ha : a ≤ 1000) : ∃ b, a ≤ b ∧ b ≤ a + 240 ∧ (∀ j, a ≤ j → j < b → Bl (g j)) ∧ ¬ Bl (g b) ∧ wp5_behindBlanks x (Int32.ofNat a) ∧ fn5_behindBlanks x (Int32.ofNat a) = Int32.ofNat b ∧ ∀ c : qt1, wp10_blanksFrom (hk s c) (Int32.ofNat a) ∧ fn10_blanksFrom (hk s c) (Int32.ofNat a) = Int32.ofNat (b - a) := by
  obtain ⟨b, b1, b2, b3, b4, b5, b6, b7⟩ := l_blanks h 240 a hg_fu hg_fu (by have := h.2.2.1; omega) (by rw [hg_fu_eq]; omega) (by rw [hg_fu_eq]; omega) (by omega)
  refine ⟨b, b1, b2, b3, b4, b5, by rw [fq5_behindBlanks]; exact b6, fun c => ?_⟩
  have := b7 c a (Nat.le_refl _)
  rw [Nat.sub_self] at this
  exact ⟨this.1, by rw [fq10_blanksFrom]; exact this.2⟩
