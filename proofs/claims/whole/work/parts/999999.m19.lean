/-! compiling: what is open is closed -/
theorem b_shut {y : qt0} {x : qt5} {c : qt1} {s : hs} {so T C O dep st : Nat → Nat} {L n i k H : Nat} (h : BI y x c s so T C O dep st L n i (k + 1) H) (hi : i < n) (h1 : so i = 5) (tu : Nat → Int32) (hu : ∀ q, q < n → tu q = Int32.ofNat ((if T (st k) = st k then un T (st k) i else T) q)) : BI (qu0_openCount y (Int32.ofNat k)) (qu5_closes (qu5_turns x tu) (upd (qg5_closes x) (st k) (Int32.ofNat i))) c (hu_opener (hu_closing (hu_open s (Int32.ofNat k)) (upd (hm_closing s) (st k) (Int32.ofNat i))) (upd (hm_opener s) i (Int32.ofNat (st k)))) so (if T (st k) = st k then un T (st k) i else T) (un C (st k) i) (un O i (st k)) dep st L n (i + 1) k H ∧ KJ s (hu_opener (hu_closing (hu_open s (Int32.ofNat k)) (upd (hm_closing s) (st k) (Int32.ofNat i))) (upd (hm_opener s) i (Int32.ofNat (st k)))) := by
  obtain ⟨⟨a1, a2, a3, a4, a5, a6, a7, a8, a9, a10, a11⟩, ⟨g1, g2, g3, g4, g5⟩, ⟨k1, k2, k3⟩, hS, hX⟩ := h
  have hst := a1.step hi
  have hpl : PL s n L i ≤ PL s n L (i + 1) := by have := hst.1; split at this <;> omega
  obtain ⟨t1, t2, t3, t4⟩ := hS.2.1 k (by omega)
  have hTne : ∀ q, q ≠ st k → (if T (st k) = st k then un T (st k) i else T) q = T q := fun q hq => by
    split
    · exact un_ne hq
    · rfl
  refine ⟨⟨⟨a1.cong ?_ ?_, a2, a3, by omega, ?_, ?_, ?_, ?_, ?_, ?_, ?_⟩, ⟨g1, ?_, ?_, ?_, ?_⟩, ⟨?_, ?_, ?_⟩, hS.close h1, hX⟩, ?_⟩
  · unfold KX
    simp only [qv5_turns, qv5_closes, and_self]
  · unfold KS
    simp only [hv_opener, hv_closing, hv_open, and_self]
  · simp only [qv5_turns, qv5_closes]; exact a5
  · simp only [hv_opener, hv_closing, hv_open]; exact a6
  · simp only [hv_opener, hv_closing, hv_open]; exact a7
  · simp only [qv5_turns, qv5_closes]
    intro q hq
    refine ⟨hu q hq, ?_⟩
    by_cases hqj : q = st k
    · subst hqj
      rw [upd_at, un_at]
    · rw [upd_ne hqj, un_ne hqj]
      exact (a8 q hq).2
  · simp only [hv_opener, hv_closing, hv_open]
    intro q hq ho
    have hqi : q ≠ i := fun w => by rw [w] at ho; rcases ho with ho | ho <;> omega
    by_cases hqj : q = st k
    · subst hqj
      rw [upd_at, un_at]
      refine ⟨?_, fun _ => rfl⟩
      have e := (a9 (st k) t1 t2).1
      by_cases hT : T (st k) = st k
      · rw [if_pos hT, un_at, if_pos (Or.inr rfl), e, if_pos (Or.inl hT)]
      · have hj := (hS.2.2.2.1 (st k) t1 t2).2.2.2.1 hT (by rw [t3]; exact hT)
        rw [if_neg hT, if_neg (by omega), e, if_neg (by rw [t3]; omega)]
    · rw [upd_ne hqj, un_ne hqj, hTne q hqj]
      exact a9 q (by omega) ho
  · simp only [hv_opener, hv_closing, hv_open]
    intro q hq ho
    by_cases hqi : q = i
    · subst hqi
      rw [upd_at, un_at]
    · rw [upd_ne hqi, un_ne hqi]
      exact a10 q (by omega) ho
  · simp only [hv_opener, hv_closing, hv_open, qv5_turns, qv5_closes]
    intro q hq ho
    exact a11 q (by have : q ≠ i := fun w => by rw [w] at ho; omega
                    omega) ho
  · simp only [qv0_openCount]; exact g2
  · simp only [hv_opener, hv_closing, hv_open]; exact g3
  · rw [PL.cong (s := s) (by unfold KS; simp only [hv_opener, hv_closing, hv_open, and_self])]
    omega
  · simp only [qv0_openCount, hv_opener, hv_closing, hv_open]
    exact g5
  · simp only [qv0_openCount]
  · simp only [hv_opener, hv_closing, hv_open]
  · unfold BK1
    simp only [qv0_openCount, hv_opener, hv_closing, hv_open]
    intro a ha
    have hlt := hS.2.2.1 a k (by omega) (by omega)
    rw [hTne _ (show st a ≠ st k by omega)]
    exact k3 a (by omega)
  · unfold KJ
    simp only [hv_opener, hv_closing, hv_open, and_self]
theorem b_close {y : qt0} {x : qt5} {c : qt1} {s : hs} {so T C O dep st : Nat → Nat} {L n i k H : Nat} (h : BI y x c s so T C O dep st L n i k H) (hi : i < n) (h1 : so i = 5) : wp0_close y x c (Int32.ofNat i) ∧ wp10_readClose (hk s c) (Int32.ofNat i) ∧ ((fn0_close y x c (Int32.ofNat i) = (0, y, x) ∧ fn10_readClose (hk s c) (Int32.ofNat i) = (0, hk s c)) ∨ ∃ y' x' s' T' C' O' k', fn0_close y x c (Int32.ofNat i) = (1, y', x') ∧ fn10_readClose (hk s c) (Int32.ofNat i) = (1, hk s' c) ∧ BI y' x' c s' so T' C' O' dep st L n (i + 1) k' H ∧ KJ s s') := by
  match k, h with
  | 0, h =>
    obtain ⟨-, -, ⟨k1, k2, k3⟩, -, -⟩ := h
    have n1 : qg0_openCount y - 1 < 0 := by rw [k1]; decide
    have n2 : hm_open (hk s c) = 0 := by simp only [hv_hk]; exact k2
    refine ⟨⟨fun _ => trivial, fun q => absurd n1 q⟩, ⟨fun _ => trivial, fun q => absurd n2 q⟩, Or.inl ⟨?_, ?_⟩⟩
    · rw [fq0_close, if_pos n1]
    · rw [fq10_readClose, if_pos n2]
  | k + 1, h =>
    have hb := b_shut h hi h1
    obtain ⟨⟨a1, a2, a3, a4, a5, a6, a7, a8, a9, a10, a11⟩, ⟨g1, g2, g3, g4, g5⟩, ⟨k1, k2, k3⟩, hS, hX⟩ := h
    have hcnt := a1.1
    have hk6 := hS.1
    obtain ⟨t1, t2, t3, t4⟩ := hS.2.1 k (by omega)
    obtain ⟨b1, b2, d, hd, b3, b4, b5⟩ := k3 k (by omega)
    have e0 : qg0_openCount y - 1 = Int32.ofNat k := by rw [k1]; exact q_sub (a := k + 1) (b := 1) (by omega)
    have n0 : ¬ qg0_openCount y - 1 < 0 := by rw [e0]; exact q_pos (by omega)
    have n6 : qg0_openCount y - 1 < 6 := by rw [e0]; exact (q_lt (b := 6) (by omega) (by omega)).mpr (by omega)
    have f0 : hm_open s - 1 = Int32.ofNat k := by rw [k2]; exact q_sub (a := k + 1) (b := 1) (by omega)
    have m0 : ¬ hm_open (hk s c) = 0 := by
      simp only [hv_hk]; rw [k2]
      exact fun q => by have := (q_eq (a := k + 1) (b := 0) (by omega) (by omega)).mp q; omega
    have hin : am_inb (Int32.ofNat k) 6 = true := q_inb (by omega) (by omega)
    have hinj : am_inb (Int32.ofNat (st k)) 240 = true := q_inb (by omega) (by omega)
    have hini : am_inb (Int32.ofNat i) 240 = true := q_inb (by omega) (by omega)
    have ck : (Int32.ofNat k).toNatClampNeg = k := q_cl (by omega)
    have cj : (Int32.ofNat (st k)).toNatClampNeg = st k := q_cl (by omega)
    have ci : (Int32.ofNat i).toNatClampNeg = i := q_cl (by omega)
    have W10 : wp10_readClose (hk s c) (Int32.ofNat i) := by
      unfold wp10_readClose wp10_state
      simp only [ha_closing, hv_closing, hv_open, hv_hk, f0, ck, b2, hin, hinj, hini, true_and, and_true, implies_true, and_self]
    have F10 : hm_ended s k = stv c → fn10_readClose (hk s c) (Int32.ofNat i) = (1, hk (hu_opener (hu_closing (hu_open s (Int32.ofNat k)) (upd (hm_closing s) (st k) (Int32.ofNat i))) (upd (hm_opener s) i (Int32.ofNat (st k)))) c) := fun q => by
      rw [fq10_readClose, if_neg m0]
      simp only [ha_closing, ha_opener, hv_closing, hv_opener, hv_open, hv_hk, f0, ck, b2, cj, ci, st_eq, q, if_true, hc_open, hc_closing, hc_opener]
    have F10' : ¬ hm_ended s k = stv c → fn10_readClose (hk s c) (Int32.ofNat i) = (0, hk s c) := fun q => by
      rw [fq10_readClose, if_neg m0]
      simp only [hv_hk, f0, ck, st_eq]
      rw [if_neg (fun w => q w.symm)]
    have hwt : ∀ x' : qt5, qg5_count x' = Int32.ofNat n → wp5_noteClose x' (Int32.ofNat (st k)) (Int32.ofNat i) := fun x' hx' => wp_has hx' (by omega) (by omega)
    have hwt2 : wp5_noteTurn x (Int32.ofNat (st k)) (Int32.ofNat i) := wp_has hcnt (by omega) (by omega)
    have ent := nt hcnt (by omega) (show st k < n by omega) (Int32.ofNat i)
    have hcnt2 : qg5_count (qu5_turns x (upd (qg5_turns x) (st k) (Int32.ofNat i))) = Int32.ofNat n := by simp only [qv5_turns]; exact hcnt
    rcases b5 with ⟨c1, c2, c3, c4⟩ | ⟨c1, d', hd', c2, c3, c4⟩
    · have W0 : wp0_close y x c (Int32.ofNat i) := by
        unfold wp0_close wp0_close_c34 wp0_close_c61 wp0_close_c84 wp1_packed
        simp only [e0, ck, b1, b3, hin, true_and, ent]
        refine ⟨fun _ => trivial, fun _ => ⟨fun _ => ⟨fun _ => ⟨fun _ => ⟨fun _ => ⟨fun _ => ⟨hwt2, hwt _ hcnt2⟩, fun _ => hwt x hcnt⟩, fun _ => trivial⟩, fun q => absurd trivial q⟩, fun q => absurd c2 q⟩, fun _ => trivial⟩⟩
      by_cases hcd : c = d
      · obtain ⟨r1, r2⟩ := hb (upd (qg5_turns x) (st k) (Int32.ofNat i)) (fun q hq => by
          rw [if_pos c1]
          by_cases hqj : q = st k
          · subst hqj
            rw [upd_at, un_at]
          · rw [upd_ne hqj, un_ne hqj]
            exact (a8 q hq).1)
        refine ⟨W0, W10, Or.inr ⟨_, _, _, _, _, _, _, ?_, F10 (by rw [c4, hcd]), r1, r2⟩⟩
        rw [fq0_close, if_neg n0, if_pos n6]
        unfold fn0_close_c34 fn0_close_c61 fn0_close_c84
        simp only [e0, ck, b1, b3, c2, if_true, ent, pkv_eq, hcd]
        rw [ncl hcnt2 (by omega) (by omega)]
        simp only [qv5_turns]
      · refine ⟨W0, W10, Or.inl ⟨?_, F10' (by rw [c4]; exact fun q => hcd ((hd.sinj hX).mp q).symm)⟩⟩
        rw [fq0_close, if_neg n0, if_pos n6]
        unfold fn0_close_c34 fn0_close_c61
        simp only [e0, ck, b1, b3, c2, if_true, pkv_eq]
        rw [if_neg (fun q => hcd ((hX.pinj hd).mp q))]
    · have c5 : ¬ qg0_turnContexts y k = -1 := by rw [c2]; exact hd'.tab.2.2.1
      have W0 : wp0_close y x c (Int32.ofNat i) := by
        unfold wp0_close wp0_close_c34 wp0_close_c61 wp0_close_c84 wp1_packed
        simp only [e0, ck, b1, hin, true_and]
        refine ⟨fun _ => trivial, fun _ => ⟨fun _ => ⟨fun q => absurd q c5, fun _ => ⟨fun q => absurd q (by decide), fun _ => ⟨fun _ => ⟨fun q => absurd q (by decide), fun _ => hwt x hcnt⟩, fun _ => trivial⟩⟩⟩, fun _ => trivial⟩⟩
      by_cases hcd : c = d'
      · obtain ⟨r1, r2⟩ := hb (qg5_turns x) (fun q hq => by
          rw [if_neg c1]
          exact (a8 q hq).1)
        refine ⟨W0, W10, Or.inr ⟨_, _, _, _, _, _, _, ?_, F10 (by rw [c4, hcd]), r1, r2⟩⟩
        rw [fq0_close, if_neg n0, if_pos n6]
        unfold fn0_close_c34 fn0_close_c61 fn0_close_c84
        simp only [e0, ck, b1]
        rw [if_neg c5, if_neg (by decide), c2, pkv_eq, hcd, if_pos rfl, if_neg (by decide), ncl hcnt (by omega) (by omega)]
        rfl
      · refine ⟨W0, W10, Or.inl ⟨?_, F10' (by rw [c4]; exact fun q => hcd ((hd'.sinj hX).mp q).symm)⟩⟩
        rw [fq0_close, if_neg n0, if_pos n6]
        unfold fn0_close_c34 fn0_close_c61
        simp only [e0, ck, b1]
        rw [if_neg c5, if_neg (by decide), c2, pkv_eq, if_neg (fun q => hcd ((hX.pinj hd').mp q))]
/-! compiling: a symbol that is no character -/
theorem b_symbol {y : qt0} {x : qt5} {c : qt1} {s : hs} {so T C O dep st : Nat → Nat} {L n i k H : Nat} (h : BI y x c s so T C O dep st L n i k H) (hi : i < n) (h1 : so i ≠ 0) : wp0_readSymbol y x c (Int32.ofNat i) ∧ wp10_readSymbol (hk s c) (Int32.ofNat i) ∧ ((fn0_readSymbol y x c (Int32.ofNat i) = (0, y, x, c) ∧ fn10_readSymbol (hk s c) (Int32.ofNat i) = (0, hk s c)) ∨ ∃ y' x' c' s' T' C' O' dep' st' k' H', fn0_readSymbol y x c (Int32.ofNat i) = (1, y', x', c') ∧ fn10_readSymbol (hk s c) (Int32.ofNat i) = (1, hk s' c') ∧ BI y' x' c' s' so T' C' O' dep' st' L n (i + 1) k' H' ∧ KJ s s' ∧ so i ≤ 5) := by
  have hn : n ≤ 240 := by have := h.1.2.1; have := h.1.2.2.1; omega
  have hcnt := h.1.1.1
  have K : fn5_kind x (Int32.ofNat i) = Int32.ofNat (so i + 1) := by rw [kd hcnt hn hi]; exact b_kind h hi
  have S : hm_sort (hk s c) (Int32.ofNat i).toNatClampNeg = Int32.ofNat (so i) := by rw [q_cl (by omega)]; simp only [hv_hk]; exact (h.1.2.2.2.2.2.2.1 i hi).1
  have hle := (h.1.2.2.2.2.2.2.1 i hi).2
  have wk : wp5_kind x (Int32.ofNat i) := wp_has hcnt hn (by omega)
  have hini : am_inb (Int32.ofNat i) 240 = true := q_inb (by omega) (by omega)
  have fit0 : am_fit .boolean (.inl (0 : Int32)) = true := by decide
  have fit1 : am_fit .boolean (.inl (1 : Int32)) = true := by decide
  have hcase : so i = 1 ∨ so i = 2 ∨ so i = 3 ∨ so i = 4 ∨ so i = 5 ∨ so i = 6 := by omega
  rcases hcase with q | q | q | q | q | q
  · obtain ⟨w0, w10, r⟩ := b_hole h hi q
    have K' : fn5_kind x (Int32.ofNat i) = 2 := by rw [K, q]; rfl
    have S' : hm_sort (hk s c) (Int32.ofNat i).toNatClampNeg = 1 := by rw [S, q]; rfl
    have W0 : wp0_readSymbol y x c (Int32.ofNat i) := by
      unfold wp0_readSymbol
      rw [K']
      exact ⟨wk, fun _ => ⟨w0, trivial⟩, fun w => absurd rfl w⟩
    rcases r with ⟨e0, e10⟩ | ⟨y', x', c', s', H', e0, e10, r1, r2⟩
    · have W10 : wp10_readSymbol (hk s c) (Int32.ofNat i) := by
        unfold wp10_readSymbol
        rw [S', e10]
        exact ⟨hini, fun _ => ⟨w10, fit0⟩, fun w => absurd rfl w⟩
      refine ⟨W0, W10, Or.inl ⟨?_, ?_⟩⟩
      · rw [fq0_readSymbol, K', if_pos rfl, fn0_readSymbol_c82]
        simp only [e0, if_true]
      · rw [fq10_readSymbol, S', if_pos rfl]
        simp only [e10]
    · have W10 : wp10_readSymbol (hk s c) (Int32.ofNat i) := by
        unfold wp10_readSymbol
        rw [S', e10]
        exact ⟨hini, fun _ => ⟨w10, fit1⟩, fun w => absurd rfl w⟩
      refine ⟨W0, W10, Or.inr ⟨y', x', c', s', T, C, O, dep, st, k, H', ?_, ?_, r1, r2, by omega⟩⟩
      · rw [fq0_readSymbol, K', if_pos rfl, fn0_readSymbol_c82]
        simp only [e0, show ¬ (1 : Int32) = 0 by decide, if_false]
      · rw [fq10_readSymbol, S', if_pos rfl]
        simp only [e10]
  · obtain ⟨w0, w10, r⟩ := b_open h hi (Or.inl q)
    have K' : fn5_kind x (Int32.ofNat i) = 3 := by rw [K, q]; rfl
    have S' : hm_sort (hk s c) (Int32.ofNat i).toNatClampNeg = 2 := by rw [S, q]; rfl
    have W0 : wp0_readSymbol y x c (Int32.ofNat i) := by
      unfold wp0_readSymbol
      rw [K']
      exact ⟨wk, fun w => absurd w (by decide), fun _ => ⟨fun _ => ⟨w0, trivial⟩, fun w => absurd rfl w⟩⟩
    rcases r with ⟨e0, e10⟩ | ⟨y', s', dep', st', k', e0, e10, r1, r2⟩
    · have W10 : wp10_readSymbol (hk s c) (Int32.ofNat i) := by
        unfold wp10_readSymbol
        rw [S', e10]
        exact ⟨hini, fun w => absurd w (by decide), fun _ => ⟨fun _ => ⟨w10, fit0⟩, fun w => absurd rfl w⟩⟩
      refine ⟨W0, W10, Or.inl ⟨?_, ?_⟩⟩
      · rw [fq0_readSymbol, K', if_neg (by decide), if_pos rfl, fn0_readSymbol_c82]
        simp only [e0, if_true]
      · rw [fq10_readSymbol, S', if_neg (by decide), if_pos rfl]
        simp only [e10]
    · have W10 : wp10_readSymbol (hk s c) (Int32.ofNat i) := by
        unfold wp10_readSymbol
        rw [S', e10]
        exact ⟨hini, fun w => absurd w (by decide), fun _ => ⟨fun _ => ⟨w10, fit1⟩, fun w => absurd rfl w⟩⟩
      refine ⟨W0, W10, Or.inr ⟨y', x, c, s', T, C, O, dep', st', k', H, ?_, ?_, r1, r2, by omega⟩⟩
      · rw [fq0_readSymbol, K', if_neg (by decide), if_pos rfl, fn0_readSymbol_c82]
        simp only [e0, show ¬ (1 : Int32) = 0 by decide, if_false]
      · rw [fq10_readSymbol, S', if_neg (by decide), if_pos rfl]
        simp only [e10]
  · obtain ⟨w0, w10, r⟩ := b_open h hi (Or.inr q)
    have K' : fn5_kind x (Int32.ofNat i) = 4 := by rw [K, q]; rfl
    have S' : hm_sort (hk s c) (Int32.ofNat i).toNatClampNeg = 3 := by rw [S, q]; rfl
    have W0 : wp0_readSymbol y x c (Int32.ofNat i) := by
      unfold wp0_readSymbol
      rw [K']
      exact ⟨wk, fun w => absurd w (by decide), fun _ => ⟨fun w => absurd w (by decide), fun _ => ⟨fun _ => ⟨w0, trivial⟩, fun w => absurd rfl w⟩⟩⟩
    rcases r with ⟨e0, e10⟩ | ⟨y', s', dep', st', k', e0, e10, r1, r2⟩
    · have W10 : wp10_readSymbol (hk s c) (Int32.ofNat i) := by
        unfold wp10_readSymbol
        rw [S', e10]
        exact ⟨hini, fun w => absurd w (by decide), fun _ => ⟨fun w => absurd w (by decide), fun _ => ⟨fun _ => ⟨w10, fit0⟩, fun w => absurd rfl w⟩⟩⟩
      refine ⟨W0, W10, Or.inl ⟨?_, ?_⟩⟩
      · rw [fq0_readSymbol, K', if_neg (by decide), if_neg (by decide), if_pos rfl, fn0_readSymbol_c82]
        simp only [e0, if_true]
      · rw [fq10_readSymbol, S', if_neg (by decide), if_neg (by decide), if_pos rfl]
        simp only [e10]
    · have W10 : wp10_readSymbol (hk s c) (Int32.ofNat i) := by
        unfold wp10_readSymbol
        rw [S', e10]
        exact ⟨hini, fun w => absurd w (by decide), fun _ => ⟨fun w => absurd w (by decide), fun _ => ⟨fun _ => ⟨w10, fit1⟩, fun w => absurd rfl w⟩⟩⟩
      refine ⟨W0, W10, Or.inr ⟨y', x, c, s', T, C, O, dep', st', k', H, ?_, ?_, r1, r2, by omega⟩⟩
      · rw [fq0_readSymbol, K', if_neg (by decide), if_neg (by decide), if_pos rfl, fn0_readSymbol_c82]
        simp only [e0, show ¬ (1 : Int32) = 0 by decide, if_false]
      · rw [fq10_readSymbol, S', if_neg (by decide), if_neg (by decide), if_pos rfl]
        simp only [e10]
  · obtain ⟨w0, w10, r⟩ := b_turn h hi q
    have K' : fn5_kind x (Int32.ofNat i) = 5 := by rw [K, q]; rfl
    have S' : hm_sort (hk s c) (Int32.ofNat i).toNatClampNeg = 4 := by rw [S, q]; rfl
    have W0 : wp0_readSymbol y x c (Int32.ofNat i) := by
      unfold wp0_readSymbol
      rw [K']
      exact ⟨wk, fun w => absurd w (by decide), fun _ => ⟨fun w => absurd w (by decide), fun _ => ⟨fun w => absurd w (by decide), fun _ => ⟨fun _ => ⟨w0, trivial⟩, fun w => absurd rfl w⟩⟩⟩⟩
    rcases r with ⟨e0, e10⟩ | ⟨y', x', c', s', T', O', e0, e10, r1, r2⟩
    · have W10 : wp10_readSymbol (hk s c) (Int32.ofNat i) := by
        unfold wp10_readSymbol
        rw [S', e10]
        exact ⟨hini, fun w => absurd w (by decide), fun _ => ⟨fun w => absurd w (by decide), fun _ => ⟨fun w => absurd w (by decide), fun _ => ⟨fun _ => ⟨w10, fit0⟩, fun w => absurd rfl w⟩⟩⟩⟩
      refine ⟨W0, W10, Or.inl ⟨?_, ?_⟩⟩
      · rw [fq0_readSymbol, K', if_neg (by decide), if_neg (by decide), if_neg (by decide), if_pos rfl, fn0_readSymbol_c82]
        simp only [e0, if_true]
      · rw [fq10_readSymbol, S', if_neg (by decide), if_neg (by decide), if_neg (by decide), if_pos rfl]
        simp only [e10]
    · have W10 : wp10_readSymbol (hk s c) (Int32.ofNat i) := by
        unfold wp10_readSymbol
        rw [S', e10]
        exact ⟨hini, fun w => absurd w (by decide), fun _ => ⟨fun w => absurd w (by decide), fun _ => ⟨fun w => absurd w (by decide), fun _ => ⟨fun _ => ⟨w10, fit1⟩, fun w => absurd rfl w⟩⟩⟩⟩
      refine ⟨W0, W10, Or.inr ⟨y', x', c', s', T', C, O', dep, st, k, H, ?_, ?_, r1, r2, by omega⟩⟩
      · rw [fq0_readSymbol, K', if_neg (by decide), if_neg (by decide), if_neg (by decide), if_pos rfl, fn0_readSymbol_c82]
        simp only [e0, show ¬ (1 : Int32) = 0 by decide, if_false]
      · rw [fq10_readSymbol, S', if_neg (by decide), if_neg (by decide), if_neg (by decide), if_pos rfl]
        simp only [e10]
  · obtain ⟨w0, w10, r⟩ := b_close h hi q
    have K' : fn5_kind x (Int32.ofNat i) = 6 := by rw [K, q]; rfl
    have S' : hm_sort (hk s c) (Int32.ofNat i).toNatClampNeg = 5 := by rw [S, q]; rfl
    have W0 : wp0_readSymbol y x c (Int32.ofNat i) := by
      unfold wp0_readSymbol
      rw [K']
      exact ⟨wk, fun w => absurd w (by decide), fun _ => ⟨fun w => absurd w (by decide), fun _ => ⟨fun w => absurd w (by decide), fun _ => ⟨fun w => absurd w (by decide), fun _ => ⟨fun _ => ⟨w0, trivial⟩, fun w => absurd rfl w⟩⟩⟩⟩⟩
    rcases r with ⟨e0, e10⟩ | ⟨y', x', s', T', C', O', k', e0, e10, r1, r2⟩
    · have W10 : wp10_readSymbol (hk s c) (Int32.ofNat i) := by
        unfold wp10_readSymbol
        rw [S', e10]
        exact ⟨hini, fun w => absurd w (by decide), fun _ => ⟨fun w => absurd w (by decide), fun _ => ⟨fun w => absurd w (by decide), fun _ => ⟨fun w => absurd w (by decide), fun _ => ⟨fun _ => ⟨w10, fit0⟩, fun w => absurd rfl w⟩⟩⟩⟩⟩
      refine ⟨W0, W10, Or.inl ⟨?_, ?_⟩⟩
      · rw [fq0_readSymbol, K', if_neg (by decide), if_neg (by decide), if_neg (by decide), if_neg (by decide), if_pos rfl, fn0_readSymbol_c82]
        simp only [e0, if_true]
      · rw [fq10_readSymbol, S', if_neg (by decide), if_neg (by decide), if_neg (by decide), if_neg (by decide), if_pos rfl]
        simp only [e10]
    · have W10 : wp10_readSymbol (hk s c) (Int32.ofNat i) := by
        unfold wp10_readSymbol
        rw [S', e10]
        exact ⟨hini, fun w => absurd w (by decide), fun _ => ⟨fun w => absurd w (by decide), fun _ => ⟨fun w => absurd w (by decide), fun _ => ⟨fun w => absurd w (by decide), fun _ => ⟨fun _ => ⟨w10, fit1⟩, fun w => absurd rfl w⟩⟩⟩⟩⟩
      refine ⟨W0, W10, Or.inr ⟨y', x', c, s', T', C', O', dep, st, k', H, ?_, ?_, r1, r2, by omega⟩⟩
      · rw [fq0_readSymbol, K', if_neg (by decide), if_neg (by decide), if_neg (by decide), if_neg (by decide), if_pos rfl, fn0_readSymbol_c82]
        simp only [e0, show ¬ (1 : Int32) = 0 by decide, if_false]
      · rw [fq10_readSymbol, S', if_neg (by decide), if_neg (by decide), if_neg (by decide), if_neg (by decide), if_pos rfl]
        simp only [e10]
  · skip
    have K' : fn5_kind x (Int32.ofNat i) = 7 := by rw [K, q]; rfl
    have S' : hm_sort (hk s c) (Int32.ofNat i).toNatClampNeg = 6 := by rw [S, q]; rfl
    have W0 : wp0_readSymbol y x c (Int32.ofNat i) := by
      unfold wp0_readSymbol
      rw [K']
      exact ⟨wk, fun w => absurd w (by decide), fun _ => ⟨fun w => absurd w (by decide), fun _ => ⟨fun w => absurd w (by decide), fun _ => ⟨fun w => absurd w (by decide), fun _ => ⟨fun w => absurd w (by decide), fun _ => trivial⟩⟩⟩⟩⟩
    have W10 : wp10_readSymbol (hk s c) (Int32.ofNat i) := by
      unfold wp10_readSymbol
      rw [S']
      exact ⟨hini, fun w => absurd w (by decide), fun _ => ⟨fun w => absurd w (by decide), fun _ => ⟨fun w => absurd w (by decide), fun _ => ⟨fun w => absurd w (by decide), fun _ => ⟨fun w => absurd w (by decide), fun _ => trivial⟩⟩⟩⟩⟩
    refine ⟨W0, W10, Or.inl ⟨?_, ?_⟩⟩
    · rw [fq0_readSymbol, K', if_neg (by decide), if_neg (by decide), if_neg (by decide), if_neg (by decide), if_neg (by decide), fn0_readSymbol_c82, if_pos rfl]
    · rw [fq10_readSymbol, S', if_neg (by decide), if_neg (by decide), if_neg (by decide), if_neg (by decide), if_neg (by decide)]
