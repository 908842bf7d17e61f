/-! names and ampersands -/
abbrev Nm (c : Int32) : Prop := (97 ≤ c ∧ c ≤ 122) ∨ c = 45
theorem l_name {x : qt5} {s : hs} {n : Nat} {g : Nat → Int32} (h : CH x s n g) : ∀ (d a fu fu' : Nat), n - a ≤ d → d < fu → d < fu' → a ≤ 100000 → ∃ b, a ≤ b ∧ b ≤ a + d ∧ (∀ j, a ≤ j → j < b → Nm (g j)) ∧ ¬ Nm (g b) ∧ wp5_behindName_c2 fu x (Int32.ofNat a) ∧ fn5_behindName_c2 fu x (Int32.ofNat a) = Int32.ofNat b ∧ ∀ (c : qt1) (a0 : Nat), a0 < a → (wp10_attribute_c37 (hk s c) (Int32.ofNat a0) (Int32.ofNat (b - a0)) → wp10_attribute_c2 fu' (hk s c) (Int32.ofNat a0) (Int32.ofNat (a - a0))) ∧ fn10_attribute_c2 fu' (hk s c) (Int32.ofNat a0) (Int32.ofNat (a - a0)) = fn10_attribute_c37 (hk s c) (Int32.ofNat a0) (Int32.ofNat (b - a0)) := by
  intro d
  induction d with
  | zero =>
    intro a fu fu' hd hf hf' ha
    obtain ⟨fu, rfl⟩ : ∃ f, fu = f + 1 := ⟨fu - 1, by omega⟩
    obtain ⟨fu', rfl⟩ : ∃ f, fu' = f + 1 := ⟨fu' - 1, by omega⟩
    have hz := h.z (show n ≤ a by omega)
    have hP : ¬ Nm (g a) := by rw [hz]; unfold Nm; decide
    have hc := (h.cnt (show a < 2147483648 by omega)).mpr (by omega)
    refine ⟨a, by omega, by omega, fun j h1 h2 => by omega, hP, ⟨fun _ => trivial, fun q => absurd hc q⟩, ?_, fun c a0 h0 => ?_⟩
    · unfold fn5_behindName_c2
      rw [if_pos hc]
    · have e : Int32.ofNat a0 + Int32.ofNat (a - a0) = Int32.ofNat a := by rw [q_add, Nat.add_sub_cancel' (by omega)]
      have e0 : ¬ Int32.ofNat (a - a0) ≤ 0 := fun q => by have := (q_le (b := 0) (by omega) (by omega)).mp q; omega
      have p1 := (il10 (g a)).mpr (fun q => hP (Or.inl q))
      have p2 : ¬ g a = 45 := fun q => hP (Or.inr q)
      refine ⟨fun w => ?_, ?_⟩
      · unfold wp10_attribute_c2
        rw [e, h.ch c (by omega)]
        exact ⟨h.wch c (by omega), trivial, fun _ => ⟨fun q => absurd q e0, fun _ => ⟨h.wch c (by omega), fun q => absurd q p2, fun _ => w⟩⟩, fun q => absurd p1 q⟩
      · unfold fn10_attribute_c2
        rw [e, h.ch c (by omega), if_pos p1, if_neg e0, if_neg p2]
  | succ d ih =>
    intro a fu fu' hd hf hf' ha
    obtain ⟨fu, rfl⟩ : ∃ f, fu = f + 1 := ⟨fu - 1, by omega⟩
    obtain ⟨fu', rfl⟩ : ∃ f, fu' = f + 1 := ⟨fu' - 1, by omega⟩
    by_cases hP : Nm (g a)
    · have hn : a < n := by
        have : g a ≠ 0 := fun q => by rw [q] at hP; unfold Nm at hP; revert hP; decide
        exact (h.2.2.2.1 a this).1
      have hc : ¬ qg5_count x ≤ Int32.ofNat a := fun q => by have := (h.cnt (show a < 2147483648 by omega)).mp q; omega
      obtain ⟨b, b1, b2, b3, b4, b5, b6, b7⟩ := ih (a + 1) fu fu' (by omega) (by omega) (by omega) (by have := h.2.2.1; omega)
      refine ⟨b, by omega, by omega, fun j h1 h2 => ?_, b4, ?_, ?_, fun c a0 h0 => ?_⟩
      · by_cases hj : j = a
        · rw [hj]; exact hP
        · exact b3 j (by omega) h2
      · unfold wp5_behindName_c2
        rw [h.sign (by omega), q_1]
        exact ⟨fun q => absurd q hc, fun _ => ⟨h.wsign (by omega), trivial, fun q => ⟨h.wsign (by omega), fun _ => b5, fun _ => trivial⟩, fun _ => b5⟩⟩
      · unfold fn5_behindName_c2
        rw [if_neg hc, h.sign (by omega), q_1]
        by_cases hL : fn4_isLetter (g a) = 0
        · rw [if_pos hL, if_pos (hP.resolve_left ((il4 _).mp hL))]
          exact b6
        · rw [if_neg hL]
          exact b6
      · have e : Int32.ofNat a0 + Int32.ofNat (a - a0) = Int32.ofNat a := by rw [q_add, Nat.add_sub_cancel' (by omega)]
        have e0 : ¬ Int32.ofNat (a - a0) ≤ 0 := fun q => by have := (q_le (b := 0) (by omega) (by omega)).mp q; omega
        obtain ⟨k1, k2⟩ := b7 c a0 (by omega)
        rw [show a + 1 - a0 = a - a0 + 1 by omega] at k1 k2
        refine ⟨fun w => ?_, ?_⟩
        · unfold wp10_attribute_c2
          rw [e, h.ch c (by omega), q_1]
          exact ⟨h.wch c (by omega), trivial, fun q => ⟨fun q2 => absurd q2 e0, fun _ => ⟨h.wch c (by omega), fun _ => k1 w, fun q2 => absurd (hP.resolve_left ((il10 _).mp q)) q2⟩⟩, fun _ => k1 w⟩
        · unfold fn10_attribute_c2
          rw [e, h.ch c (by omega), q_1, if_neg e0]
          by_cases hL : fn10_isLetter (g a) = 0
          · rw [if_pos hL, if_pos (hP.resolve_left ((il10 _).mp hL))]
            exact k2
          · rw [if_neg hL]
            exact k2
    · have p1 := (il10 (g a)).mpr (fun q => hP (Or.inl q))
      have p3 := (il4 (g a)).mpr (fun q => hP (Or.inl q))
      have p2 : ¬ g a = 45 := fun q => hP (Or.inr q)
      refine ⟨a, by omega, by omega, fun j h1 h2 => by omega, hP, ?_, ?_, fun c a0 h0 => ?_⟩
      · unfold wp5_behindName_c2
        rw [h.sign (by omega)]
        exact ⟨fun _ => trivial, fun _ => ⟨h.wsign (by omega), trivial, fun _ => ⟨h.wsign (by omega), fun q => absurd q p2, fun _ => trivial⟩, fun q => absurd p3 q⟩⟩
      · unfold fn5_behindName_c2
        rw [h.sign (by omega), if_pos p3, if_neg p2]
        exact ite_self _
      · have e : Int32.ofNat a0 + Int32.ofNat (a - a0) = Int32.ofNat a := by rw [q_add, Nat.add_sub_cancel' (by omega)]
        have e0 : ¬ Int32.ofNat (a - a0) ≤ 0 := fun q => by have := (q_le (b := 0) (by omega) (by omega)).mp q; omega
        refine ⟨fun w => ?_, ?_⟩
        · unfold wp10_attribute_c2
          rw [e, h.ch c (by omega)]
          exact ⟨h.wch c (by omega), trivial, fun _ => ⟨fun q => absurd q e0, fun _ => ⟨h.wch c (by omega), fun q => absurd q p2, fun _ => w⟩⟩, fun q => absurd p1 q⟩
        · unfold fn10_attribute_c2
          rw [e, h.ch c (by omega), if_pos p1, if_neg e0, if_neg p2]
theorem CH.name {x : qt5} {s : hs} {n : Nat} {g : Nat → Int32} (h : CH x s n g) {a : Nat} (ha : a ≤ 1000) (hL : 97 ≤ g a ∧ g a ≤ 122) : ∃ b, a < b ∧ b ≤ a + 240 ∧ (∀ j, a ≤ j → j < b → Nm (g j)) ∧ ¬ Nm (g b) ∧ wp5_behindName x (Int32.ofNat a) ∧ fn5_behindName x (Int32.ofNat a) = Int32.ofNat b ∧ ∀ c : qt1, (wp10_attribute_c37 (hk s c) (Int32.ofNat a) (Int32.ofNat (b - a)) → wp10_attribute (hk s c) (Int32.ofNat a)) ∧ fn10_attribute (hk s c) (Int32.ofNat a) = fn10_attribute_c37 (hk s c) (Int32.ofNat a) (Int32.ofNat (b - a)) := by
  have hn : a < n := by
    have : g a ≠ 0 := fun q => by rw [q] at hL; revert hL; decide
    exact (h.2.2.2.1 a this).1
  have hc : ¬ qg5_count x ≤ Int32.ofNat a := fun q => by have := (h.cnt (show a < 2147483648 by omega)).mp q; omega
  have h240 := h.2.2.1
  obtain ⟨b, b1, b2, b3, b4, b5, b6, b7⟩ := l_name h 239 (a + 1) 999 999 (by omega) (by omega) (by omega) (by omega)
  have p3 : ¬ fn4_isLetter (g a) = 0 := fun q => (il4 _).mp q hL
  have p1 : ¬ fn10_isLetter (g a) = 0 := fun q => (il10 _).mp q hL
  refine ⟨b, by omega, by omega, fun j h1 h2 => ?_, b4, ?_, ?_, fun c => ?_⟩
  · by_cases hj : j = a
    · rw [hj]; exact Or.inl hL
    · exact b3 j (by omega) h2
  · unfold wp5_behindName
    rw [fuel_fu]
    unfold wp5_behindName_c2
    rw [h.sign (by omega), q_1]
    exact ⟨fun q => absurd q hc, fun _ => ⟨h.wsign (by omega), trivial, fun q => absurd q p3, fun _ => b5⟩⟩
  · rw [fq5_behindName, fuel_fu]
    unfold fn5_behindName_c2
    rw [if_neg hc, h.sign (by omega), q_1, if_neg p3]
    exact b6
  · have e : Int32.ofNat a + 0 = Int32.ofNat a := q_add a 0
    obtain ⟨k1, k2⟩ := b7 c a (by omega)
    rw [Nat.add_sub_cancel_left] at k1 k2
    refine ⟨fun w => ?_, ?_⟩
    · unfold wp10_attribute
      rw [fuel_fu]
      unfold wp10_attribute_c2
      rw [e, h.ch c (by omega)]
      exact ⟨h.wch c (by omega), trivial, fun q => absurd q p1, fun _ => k1 w⟩
    · rw [fq10_attribute, fuel_fu]
      unfold fn10_attribute_c2
      rw [e, h.ch c (by omega), if_neg p1]
      exact k2
theorem l_amp {x : qt5} {s : hs} {n : Nat} {g : Nat → Int32} (h : CH x s n g) : ∀ (d a fu fu' : Nat), n - a ≤ d → d < fu → d < fu' → a ≤ 100000 → ∃ r : Nat, r ≤ 1 ∧ wp3_ampersand_c4 fu x (Int32.ofNat a) ∧ fn3_ampersand_c4 fu x (Int32.ofNat a) = Int32.ofNat r ∧ ∀ c : qt1, wp10_isAmpersand_c4 fu' (hk s c) (Int32.ofNat a) ∧ fn10_isAmpersand_c4 fu' (hk s c) (Int32.ofNat a) = Int32.ofNat r := by
  intro d
  induction d with
  | zero =>
    intro a fu fu' hd hf hf' ha
    obtain ⟨fu, rfl⟩ : ∃ f, fu = f + 1 := ⟨fu - 1, by omega⟩
    obtain ⟨fu', rfl⟩ : ∃ f, fu' = f + 1 := ⟨fu' - 1, by omega⟩
    have hz := h.z (show n ≤ a by omega)
    have hw : fn10_isWord (g a) = 0 := (iw10 _).mpr (by rw [hz]; decide)
    have hc := (h.cnt (show a < 2147483648 by omega)).mpr (by omega)
    refine ⟨0, by omega, ⟨fun _ => h.wsign (by omega), fun q => absurd hc q⟩, ?_, fun c => ⟨?_, ?_⟩⟩
    · unfold fn3_ampersand_c4
      rw [if_pos hc, h.sign (by omega), if_pos hz]
      rfl
    · unfold wp10_isAmpersand_c4
      rw [h.ch c (by omega)]
      exact ⟨h.wch c (by omega), ww10 _, fun _ => ⟨h.wch c (by omega), fun q => by rw [hz] at q; exact absurd q (by decide), fun _ => h.wch c (by omega)⟩, fun q => absurd hw q⟩
    · unfold fn10_isAmpersand_c4
      rw [h.ch c (by omega), if_pos hw, if_neg (by rw [hz]; decide), if_pos hz]
      rfl
  | succ d ih =>
    intro a fu fu' hd hf hf' ha
    obtain ⟨fu, rfl⟩ : ∃ f, fu = f + 1 := ⟨fu - 1, by omega⟩
    obtain ⟨fu', rfl⟩ : ∃ f, fu' = f + 1 := ⟨fu' - 1, by omega⟩
    by_cases hP : wd (g a) ∨ g a = 35
    · have hn : a < n := by
        have : g a ≠ 0 := fun q => by rw [q] at hP; revert hP; decide
        exact (h.2.2.2.1 a this).1
      have hc : ¬ qg5_count x ≤ Int32.ofNat a := fun q => by have := (h.cnt (show a < 2147483648 by omega)).mp q; omega
      obtain ⟨r, r1, r2, r3, r4⟩ := ih (a + 1) fu fu' (by omega) (by omega) (by omega) (by have := h.2.2.1; omega)
      refine ⟨r, r1, ?_, ?_, fun c => ⟨?_, ?_⟩⟩
      · unfold wp3_ampersand_c4
        rw [h.sign (by omega), q_1]
        exact ⟨fun q => absurd q hc, fun _ => ⟨h.wsign (by omega), ww4 _, fun _ => ⟨h.wsign (by omega), fun _ => r2, fun _ => h.wsign (by omega)⟩, fun _ => r2⟩⟩
      · unfold fn3_ampersand_c4
        rw [if_neg hc, h.sign (by omega), q_1]
        by_cases hL : fn4_isLetterOrDigit (g a) = 0
        · rw [if_pos hL, if_pos (hP.resolve_left ((iw4 _).mp hL))]
          exact r3
        · rw [if_neg hL]
          exact r3
      · unfold wp10_isAmpersand_c4
        rw [h.ch c (by omega), q_1]
        exact ⟨h.wch c (by omega), ww10 _, fun _ => ⟨h.wch c (by omega), fun _ => (r4 c).1, fun _ => h.wch c (by omega)⟩, fun _ => (r4 c).1⟩
      · unfold fn10_isAmpersand_c4
        rw [h.ch c (by omega), q_1]
        by_cases hL : fn10_isWord (g a) = 0
        · rw [if_pos hL, if_pos (hP.resolve_left ((iw10 _).mp hL))]
          exact (r4 c).2
        · rw [if_neg hL]
          exact (r4 c).2
    · have p1 := (iw10 (g a)).mpr (fun q => hP (Or.inl q))
      have p3 := (iw4 (g a)).mpr (fun q => hP (Or.inl q))
      have p2 : ¬ g a = 35 := fun q => hP (Or.inr q)
      refine ⟨if g a = 0 then 0 else 1, by split <;> omega, ?_, ?_, fun c => ⟨?_, ?_⟩⟩
      · unfold wp3_ampersand_c4
        rw [h.sign (by omega)]
        exact ⟨fun _ => h.wsign (by omega), fun _ => ⟨h.wsign (by omega), ww4 _, fun _ => ⟨h.wsign (by omega), fun q => absurd q p2, fun _ => h.wsign (by omega)⟩, fun q => absurd p3 q⟩⟩
      · unfold fn3_ampersand_c4
        rw [h.sign (by omega), if_pos p3, if_neg p2, ite_self]
        split <;> rfl
      · unfold wp10_isAmpersand_c4
        rw [h.ch c (by omega)]
        exact ⟨h.wch c (by omega), ww10 _, fun _ => ⟨h.wch c (by omega), fun q => absurd q p2, fun _ => h.wch c (by omega)⟩, fun q => absurd p1 q⟩
      · unfold fn10_isAmpersand_c4
        rw [h.ch c (by omega), if_pos p1, if_neg p2]
        split <;> rfl
theorem CH.amp {x : qt5} {s : hs} {n : Nat} {g : Nat → Int32} (h : CH x s n g) {a : Nat} (ha : a ≤ 1000) : ∃ r : Nat, r ≤ 1 ∧ wp3_ampersand x (Int32.ofNat a) ∧ fn3_ampersand x (Int32.ofNat a) = Int32.ofNat r ∧ ∀ c : qt1, wp10_isAmpersand (hk s c) (Int32.ofNat a) ∧ fn10_isAmpersand (hk s c) (Int32.ofNat a) = Int32.ofNat r := by
  have h240 := h.2.2.1
  obtain ⟨r, r1, r2, r3, r4⟩ := l_amp h 240 (a + 1) hg_fu hg_fu (by omega) (by rw [hg_fu_eq]; omega) (by rw [hg_fu_eq]; omega) (by omega)
  refine ⟨r, r1, ?_, ?_, fun c => ⟨?_, ?_⟩⟩
  · unfold wp3_ampersand
    rw [q_1]
    exact r2
  · rw [fq3_ampersand, q_1]
    exact r3
  · unfold wp10_isAmpersand
    rw [q_1]
    exact (r4 c).1
  · rw [fq10_isAmpersand, q_1]
    exact (r4 c).2
