/-! compiling: choices and loops opened -/
theorem b_open {y : qt0} {x : qt5} {c : qt1} {s : hs} {so T C O dep st : Nat → Nat} {L n i k H : Nat} (h : BI y x c s so T C O dep st L n i k H) (hi : i < n) (h1 : opn so i) : wp0_open y x c (Int32.ofNat i) ∧ wp10_readOpening (hk s c) (Int32.ofNat i) ∧ ((fn0_open y x c (Int32.ofNat i) = (0, y) ∧ fn10_readOpening (hk s c) (Int32.ofNat i) = (0, hk s c)) ∨ ∃ y' s' dep' st' k', fn0_open y x c (Int32.ofNat i) = (1, y') ∧ fn10_readOpening (hk s c) (Int32.ofNat i) = (1, hk s' c) ∧ BI y' x c s' so T C O dep' st' L n (i + 1) k' H ∧ KJ s s') := by
  obtain ⟨⟨a1, a2, a3, a4, a5, a6, a7, a8, a9, a10, a11⟩, ⟨g1, g2, g3, g4, g5⟩, ⟨k1, k2, k3⟩, hS, hX⟩ := h
  have hk6 := hS.1
  have hst := a1.step hi
  have hs45 : so i ≠ 4 ∧ so i ≠ 5 ∧ so i ≠ 1 := by rcases h1 with q | q <;> omega
  have hpl : PL s n L i ≤ PL s n L (i + 1) := by have := hst.1; split at this <;> omega
  have ek : Int32.ofNat k < 6 ↔ k < 6 := q_lt (b := 6) (by omega) (by omega)
  have ek2 : Int32.ofNat k = 6 ↔ k = 6 := q_eq (b := 6) (by omega) (by omega)
  have eo : hm_open (hk s c) = Int32.ofNat k := by simp only [hv_hk]; exact k2
  by_cases hke : k = 6
  · have n1 : ¬ qg0_openCount y < 6 := by rw [k1, ek]; omega
    have n2 : hm_open (hk s c) = 6 := by rw [eo, ek2]; exact hke
    refine ⟨⟨fun q => absurd q n1, fun _ => trivial⟩, ⟨fun _ => trivial, fun q => absurd n2 q⟩, Or.inl ⟨?_, ?_⟩⟩
    · rw [fq0_open, if_neg n1]
    · rw [fq10_readOpening, if_pos n2]
  · have n1 : qg0_openCount y < 6 := by rw [k1, ek]; omega
    have n2 : ¬ hm_open (hk s c) = 6 := by rw [eo, ek2]; exact hke
    have hin : am_inb (Int32.ofNat k) 6 = true := q_inb (by omega) (by omega)
    have hin2 : am_inb (Int32.ofNat i) 240 = true := q_inb (by omega) (by omega)
    have hTi := (hS.2.2.2.2.2.2.1 i (by omega)).1
    refine ⟨⟨fun _ => ?_, fun q => absurd n1 q⟩, ⟨fun q => absurd q n2, fun _ => ?_⟩, Or.inr ?_⟩
    · unfold wp0_open_c21 wp0_open_c37 wp0_open_c47 wp1_packed
      simp only [qa0_openSymbols, qa0_openContexts, qa0_turnContexts, qv0_openSymbols, qv0_openContexts, qv0_turnContexts, k1, hin, and_self]
    · unfold wp10_readOpening_c21 wp10_readOpening_c34 wp10_readOpening_c47 wp10_readOpening_c57 wp10_readOpening_c64 wp10_state
      simp only [ha_opened, ha_before, ha_ended, ha_divided, ha_other, hv_opened, hv_before, hv_ended, hv_divided, hv_other, eo, hin, hin2, and_self]
    · refine ⟨qu0_openCount (qu0_turnContexts (qu0_openContexts (qu0_openSymbols y (upd (qg0_openSymbols y) k (Int32.ofNat i))) (upd (qg0_openContexts y) k (pkv c))) (upd (qg0_turnContexts y) k (-1))) (Int32.ofNat (k + 1)), hu_open (hu_other (hu_divided (hu_ended (hu_before (hu_opened s (upd (hm_opened s) k (Int32.ofNat i))) (upd (hm_before s) k (stv c))) (upd (hm_ended s) k (stv c))) (upd (hm_divided s) k 0)) (upd (hm_other s) i (-1))) (Int32.ofNat (k + 1)), un dep i k, un st k i, k + 1, ?_, ?_, ?_, ?_⟩
      · rw [fq0_open, if_pos n1]
        unfold fn0_open_c21 fn0_open_c37 fn0_open_c47
        simp only [qa0_openSymbols, qa0_openContexts, qa0_turnContexts, qv0_openSymbols, qv0_openContexts, qv0_turnContexts, k1, pkv_eq, q_cl (show k < 2147483648 by omega), q_1]
      · rw [fq10_readOpening, if_neg n2]
        unfold fn10_readOpening_c21 fn10_readOpening_c34 fn10_readOpening_c47 fn10_readOpening_c57 fn10_readOpening_c64
        simp only [ha_opened, ha_before, ha_ended, ha_divided, ha_other, hv_opened, hv_before, hv_ended, hv_divided, hv_other, hv_hk, k2, q_cl (show k < 2147483648 by omega), q_cl (show i < 2147483648 by omega), q_1, hc_opened, hc_before, hc_ended, hc_divided, hc_other, hc_open, st_eq, nar0]
      · refine ⟨⟨a1.cong ⟨rfl, rfl, rfl, rfl, rfl, rfl⟩ ?_, a2, a3, by omega, a5, ?_, ?_, a8, ?_, ?_, ?_⟩, ⟨g1, ?_, ?_, ?_, ?_⟩, ⟨?_, ?_, ?_⟩, hS.opens h1 (by omega), hX⟩
        · unfold KS
          simp only [hv_opened, hv_before, hv_ended, hv_divided, hv_other, hv_open, and_self]
        · simp only [hv_opened, hv_before, hv_ended, hv_divided, hv_other, hv_open]; exact a6
        · simp only [hv_opened, hv_before, hv_ended, hv_divided, hv_other, hv_open]; exact a7
        · simp only [hv_opened, hv_before, hv_ended, hv_divided, hv_other, hv_open]
          intro j hj ho
          by_cases hji : j = i
          · subst hji
            rw [upd_at, if_pos (Or.inl hTi)]
            exact ⟨rfl, fun q => absurd (hS.2.2.2.2.2.2.1 j (by omega)).2 q⟩
          · rw [upd_ne hji]
            exact a9 j (by omega) ho
        · simp only [hv_opened, hv_before, hv_ended, hv_divided, hv_other, hv_open]
          intro j hj ho
          exact a10 j (by have : j ≠ i := fun q => by rw [q] at ho; rcases ho with ho | ho <;> omega
                          omega) ho
        · simp only [hv_opened, hv_before, hv_ended, hv_divided, hv_other, hv_open]
          intro j hj ho
          exact a11 j (by have : j ≠ i := fun q => by rw [q] at ho; omega
                          omega) ho
        · simp only [qv0_openSymbols, qv0_openContexts, qv0_turnContexts, qv0_openCount]; exact g2
        · simp only [hv_opened, hv_before, hv_ended, hv_divided, hv_other, hv_open]; exact g3
        · rw [PL.cong (s := s) (by unfold KS; simp only [hv_opened, hv_before, hv_ended, hv_divided, hv_other, hv_open, and_self])]
          omega
        · simp only [qv0_openSymbols, qv0_openContexts, qv0_turnContexts, qv0_openCount, hv_opened, hv_before, hv_ended, hv_divided, hv_other, hv_open]
          exact g5
        · simp only [qv0_openCount]
        · simp only [hv_open]
        · unfold BK1
          simp only [qv0_openSymbols, qv0_openContexts, qv0_turnContexts, qv0_openCount, hv_opened, hv_before, hv_ended, hv_divided, hv_other, hv_open]
          intro a ha
          by_cases hak : a = k
          · subst hak
            simp only [upd_at, un_at]
            exact ⟨trivial, trivial, c, hX, rfl, rfl, Or.inl ⟨hTi, trivial, trivial, rfl⟩⟩
          · simp only [upd_ne hak, un_ne hak]
            exact k3 a (by omega)
      · unfold KJ
        simp only [hv_opened, hv_before, hv_ended, hv_divided, hv_other, hv_open, and_self]
