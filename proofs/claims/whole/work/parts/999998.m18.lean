/-! compiling: the otherwise of a choice -/
theorem b_kind {y : qt0} {x : qt5} {c : qt1} {s : hs} {so T C O dep st : Nat → Nat} {L n i k H : Nat} (h : BI y x c s so T C O dep st L n i k H) {j : Nat} (hj : j < n) : qg5_kinds x j = Int32.ofNat (so j + 1) := by
  obtain ⟨so', g1, g2, g3, -⟩ := h.1.1.2.2.1 j hj
  have e := (h.1.2.2.2.2.2.2.1 j hj)
  have : so' = so j := (q_eq (by omega) (by omega)).mp (g2.symm.trans e.1)
  rw [← this]
  exact g3
theorem b_turn {y : qt0} {x : qt5} {c : qt1} {s : hs} {so T C O dep st : Nat → Nat} {L n i k H : Nat} (h : BI y x c s so T C O dep st L n i k H) (hi : i < n) (h1 : so i = 4) : wp0_turn y x c (Int32.ofNat i) ∧ wp10_readOtherwise (hk s c) (Int32.ofNat i) ∧ ((fn0_turn y x c (Int32.ofNat i) = (0, y, x, c) ∧ fn10_readOtherwise (hk s c) (Int32.ofNat i) = (0, hk s c)) ∨ ∃ y' x' c' s' T' O', fn0_turn y x c (Int32.ofNat i) = (1, y', x', c') ∧ fn10_readOtherwise (hk s c) (Int32.ofNat i) = (1, hk s' c') ∧ BI y' x' c' s' so T' C O' dep st L n (i + 1) k H ∧ KJ s s') := by
  have hB := h
  obtain ⟨⟨a1, a2, a3, a4, a5, a6, a7, a8, a9, a10, a11⟩, ⟨g1, g2, g3, g4, g5⟩, ⟨k1, k2, k3⟩, hS, hX⟩ := h
  have hcnt := a1.1
  have hst := a1.step hi
  have hpl : PL s n L i ≤ PL s n L (i + 1) := by have := hst.1; split at this <;> omega
  match k, k1, k2, k3, hS, hB with
  | 0, k1, k2, k3, hS, hB =>
    have n1 : qg0_openCount y - 1 < 0 := by rw [k1]; decide
    have n2 : hm_open (hk s c) = 0 := by simp only [hv_hk]; exact k2
    refine ⟨⟨fun _ => trivial, fun q => absurd n1 q⟩, ⟨fun _ => trivial, fun q => absurd n2 q⟩, Or.inl ⟨?_, ?_⟩⟩
    · rw [fq0_turn, if_pos n1]
    · rw [fq10_readOtherwise, if_pos n2]
  | k + 1, k1, k2, k3, hS, hB =>
    have hk6 := hS.1
    obtain ⟨t1, t2, t3, t4⟩ := hS.2.1 k (by omega)
    obtain ⟨b1, b2, d, hd, b3, b4, b5⟩ := k3 k (by omega)
    have e0 : qg0_openCount y - 1 = Int32.ofNat k := by rw [k1]; exact q_sub (a := k + 1) (b := 1) (by omega)
    have n0 : ¬ qg0_openCount y - 1 < 0 := by rw [e0]; exact q_pos (by omega)
    have n6 : qg0_openCount y - 1 < 6 := by rw [e0]; exact (q_lt (b := 6) (by omega) (by omega)).mpr (by omega)
    have f0 : hm_open s - 1 = Int32.ofNat k := by rw [k2]; exact q_sub (a := k + 1) (b := 1) (by omega)
    have m0 : ¬ hm_open (hk s c) = 0 := by
      simp only [hv_hk]; rw [k2]
      exact fun q => by have := (q_eq (a := k + 1) (b := 0) (by omega) (by omega)).mp q; omega
    have hin : am_inb (Int32.ofNat k) 6 = true := q_inb (by omega) (by omega)
    have hinj : am_inb (Int32.ofNat (st k)) 240 = true := q_inb (by omega) (by omega)
    have hini : am_inb (Int32.ofNat i) 240 = true := q_inb (by omega) (by omega)
    have ck : (Int32.ofNat k).toNatClampNeg = k := q_cl (by omega)
    have cj : (Int32.ofNat (st k)).toNatClampNeg = st k := q_cl (by omega)
    have ci : (Int32.ofNat i).toNatClampNeg = i := q_cl (by omega)
    have K : fn5_kind x (Int32.ofNat (st k)) = Int32.ofNat (so (st k) + 1) := by rw [kd hcnt (by omega) (by omega)]; exact b_kind hB (by omega)
    have hso6 := (a7 (st k) (by omega)).2
    have K3 : fn5_kind x (Int32.ofNat (st k)) = 3 ↔ so (st k) = 2 := by
      rw [K]
      have := q_eq (a := so (st k) + 1) (b := 3) (by omega) (by omega)
      exact ⟨fun q => by have := this.mp q; omega, fun q => this.mpr (by omega)⟩
    have S2 : hm_sort s (st k) = 2 ↔ so (st k) = 2 := by rw [(a7 (st k) (by omega)).1]; exact q_eq (b := 2) (by omega) (by omega)
    by_cases hk2 : so (st k) = 2
    · rcases b5 with ⟨c1, c2, c3, c4⟩ | ⟨c1, d', hd', c2, c3, c4⟩
      · have W0 : wp0_turn y x c (Int32.ofNat i) := by
          unfold wp0_turn wp1_packed
          simp only [qa0_turnContexts, qv0_turnContexts, e0, ck, b1, b3, hin, true_and, and_true]
          exact ⟨fun _ => trivial, fun _ => ⟨fun _ => ⟨wp_has hcnt (by omega) (by omega), fun _ => ⟨fun _ => ⟨hd.wup c, wp_has hcnt (by omega) (by omega)⟩, fun _ => trivial⟩, fun _ => trivial⟩, fun _ => trivial⟩⟩
        have W10 : wp10_readOtherwise (hk s c) (Int32.ofNat i) := by
          unfold wp10_readOtherwise wp10_readOtherwise_c58 wp10_readOtherwise_c70 wp10_readOtherwise_c87 wp10_readOtherwise_c104 wp10_state
          simp only [ha_ended, ha_divided, ha_other, ha_opener, hv_ended, hv_divided, hv_other, hv_opener, f0, ck, hv_hk, b2, b4, hin, hinj, hini, true_and, and_true, implies_true]
          exact fun _ _ _ => hd.wrs _
        refine ⟨W0, W10, Or.inr ⟨qu0_turnContexts y (upd (qg0_turnContexts y) k (pkv c)), qu5_turns x (upd (qg5_turns x) (st k) (Int32.ofNat i)), d, hu_opener (hu_other (hu_divided (hu_ended s (upd (hm_ended s) k (stv c))) (upd (hm_divided s) k 1)) (upd (hm_other s) (st k) (Int32.ofNat i))) (upd (hm_opener s) i (Int32.ofNat (st k))), un T (st k) i, un O i (st k), ?_, ?_, ?_, ?_⟩⟩
        · rw [fq0_turn, if_neg n0, if_pos n6]
          simp only [qa0_turnContexts, qv0_turnContexts, e0, ck, b1, b3]
          rw [if_pos (K3.mpr hk2), if_pos c2, nt hcnt (by omega) (by omega), up_eq, hd.tab.1, pkv_eq]
        · rw [fq10_readOtherwise, if_neg m0]
          unfold fn10_readOtherwise_c58 fn10_readOtherwise_c70 fn10_readOtherwise_c87 fn10_readOtherwise_c104
          simp only [ha_ended, ha_divided, ha_other, ha_opener, hv_ended, hv_divided, hv_other, hv_opener, f0, ck, hv_hk, b2, b4, cj, ci, nar1, st_eq]
          rw [if_pos (S2.mpr hk2), if_pos c3]
          simp only [hc_ended, hc_divided, hc_other, hc_opener]
          rw [rs_eq, hd.tab.2.1]
        · refine ⟨⟨a1.cong ?_ ?_, a2, a3, by omega, ?_, ?_, ?_, ?_, ?_, ?_, ?_⟩, ⟨g1, ?_, ?_, ?_, ?_⟩, ⟨?_, ?_, ?_⟩, hS.turn h1 hk2 c1, hd⟩
          · unfold KX
            simp only [qv5_turns, and_self]
          · unfold KS
            simp only [hv_ended, hv_divided, hv_other, hv_opener, and_self]
          · simp only [qv5_turns]; exact a5
          · simp only [hv_ended, hv_divided, hv_other, hv_opener]; exact a6
          · simp only [hv_ended, hv_divided, hv_other, hv_opener]; exact a7
          · simp only [qv5_turns]
            intro q hq
            by_cases hqj : q = st k
            · subst hqj
              rw [upd_at, un_at]
              exact ⟨rfl, (a8 _ hq).2⟩
            · rw [upd_ne hqj, un_ne hqj]
              exact a8 q hq
          · simp only [hv_ended, hv_divided, hv_other, hv_opener]
            intro q hq ho
            have hqi : q ≠ i := fun w => by rw [w] at ho; rcases ho with ho | ho <;> omega
            by_cases hqj : q = st k
            · subst hqj
              rw [upd_at, un_at, if_neg (by omega)]
              exact ⟨rfl, fun w => absurd t3 w⟩
            · rw [upd_ne hqj, un_ne hqj]
              exact a9 q (by omega) ho
          · simp only [hv_ended, hv_divided, hv_other, hv_opener]
            intro q hq ho
            by_cases hqi : q = i
            · subst hqi
              rw [upd_at, un_at]
            · rw [upd_ne hqi, un_ne hqi]
              exact a10 q (by omega) ho
          · simp only [hv_ended, hv_divided, hv_other, hv_opener, qv5_turns]
            intro q hq ho
            exact a11 q (by have : q ≠ i := fun w => by rw [w] at ho; omega
                            omega) ho
          · simp only [qv0_turnContexts]; exact g2
          · simp only [hv_ended, hv_divided, hv_other, hv_opener]; exact g3
          · rw [PL.cong (s := s) (by unfold KS; simp only [hv_ended, hv_divided, hv_other, hv_opener, and_self])]
            omega
          · simp only [qv0_turnContexts, hv_ended, hv_divided, hv_other, hv_opener]
            exact g5
          · simp only [qv0_turnContexts]; exact k1
          · simp only [hv_ended, hv_divided, hv_other, hv_opener]; exact k2
          · unfold BK1
            simp only [qv0_turnContexts, hv_ended, hv_divided, hv_other, hv_opener]
            intro a ha
            by_cases hak : a = k
            · subst hak
              rw [upd_at, upd_at, upd_at, un_at]
              exact ⟨b1, b2, d, hd, b3, b4, Or.inr ⟨by omega, c, hX, rfl, rfl, rfl⟩⟩
            · have hlt := hS.2.2.1 a k (by omega) (by omega)
              rw [upd_ne hak, upd_ne hak, upd_ne hak, un_ne (show st a ≠ st k by omega)]
              exact k3 a (by omega)
        · unfold KJ
          simp only [hv_ended, hv_divided, hv_other, hv_opener, and_self]
      · have c5 : ¬ qg0_turnContexts y k = -1 := by rw [c2]; exact hd'.tab.2.2.1
        have c6 : ¬ hm_divided s k = 0 := by rw [c3]; decide
        have W0 : wp0_turn y x c (Int32.ofNat i) := by
          unfold wp0_turn
          simp only [e0, ck, b1, hin, true_and]
          exact ⟨fun _ => trivial, fun _ => ⟨fun _ => ⟨wp_has hcnt (by omega) (by omega), fun _ => ⟨fun q => absurd q c5, fun _ => trivial⟩, fun _ => trivial⟩, fun _ => trivial⟩⟩
        have W10 : wp10_readOtherwise (hk s c) (Int32.ofNat i) := by
          unfold wp10_readOtherwise
          simp only [f0, ck, hv_hk, b2, hin, hinj, true_and, cj]
          exact ⟨fun _ => trivial, fun _ => ⟨fun _ => ⟨fun q => absurd q c6, fun _ => trivial⟩, fun _ => trivial⟩⟩
        refine ⟨W0, W10, Or.inl ⟨?_, ?_⟩⟩
        · rw [fq0_turn, if_neg n0, if_pos n6]
          simp only [e0, ck, b1]
          rw [if_pos (K3.mpr hk2), if_neg c5]
        · rw [fq10_readOtherwise, if_neg m0]
          simp only [f0, ck, hv_hk, b2, cj]
          rw [if_pos (S2.mpr hk2), if_neg c6]
    · have K4 : ¬ fn5_kind x (Int32.ofNat (st k)) = 3 := fun q => hk2 (K3.mp q)
      have S4 : ¬ hm_sort s (st k) = 2 := fun q => hk2 (S2.mp q)
      have W0 : wp0_turn y x c (Int32.ofNat i) := by
        unfold wp0_turn
        simp only [e0, ck, b1, hin, true_and]
        exact ⟨fun _ => trivial, fun _ => ⟨fun _ => ⟨wp_has hcnt (by omega) (by omega), fun q => absurd q K4, fun _ => trivial⟩, fun _ => trivial⟩⟩
      have W10 : wp10_readOtherwise (hk s c) (Int32.ofNat i) := by
        unfold wp10_readOtherwise
        simp only [f0, ck, hv_hk, b2, hin, hinj, true_and, cj]
        exact ⟨fun _ => trivial, fun _ => ⟨fun q => absurd q S4, fun _ => trivial⟩⟩
      refine ⟨W0, W10, Or.inl ⟨?_, ?_⟩⟩
      · rw [fq0_turn, if_neg n0, if_pos n6]
        simp only [e0, ck, b1]
        rw [if_neg K4]
      · rw [fq10_readOtherwise, if_neg m0]
        simp only [f0, ck, hv_hk, b2, cj]
        rw [if_neg S4]
