/-! compiling, from the start -/
def ctx (s : hs) : qt1 := (hm_context s, hm_element s, hm_quote s, hm_kind s, hm_part s)
theorem hk_ctx (s : hs) : hk s (ctx s) = s := rfl
theorem m_reads {t : qt6} {s : hs} (y : qt0) (x : qt5) (c : qt1) (ht : Jt t s) : wp0_reads y x c t ∧ wp10_build s ∧ RX s (fn0_reads y x c t) (fn10_build s) := by
  obtain ⟨w1, w2, L, n, hL, hn, hl, hR, hN, hTL, a, b, c0, e, hs'⟩ := m_cut x ht
  have hso : ∀ j, j < n → hm_sort (fn10_findSymbols s) j = Int32.ofNat (hm_sort (fn10_findSymbols s) j).toNatClampNeg ∧ (hm_sort (fn10_findSymbols s) j).toNatClampNeg ≤ 6 := fun j hj => by
    obtain ⟨so', g1, g2, -⟩ := hR.2.2.1 j hj
    rw [g2, q_cl (by omega)]
    exact ⟨rfl, g1⟩
  have hKJ : KJ s (hu_holes (hu_open (fn10_findSymbols s) 0) 0) := by
    rw [hs']
    unfold KJ sy4
    simp only [hv_holes, hv_open, hv_symbols, hv_place, hv_sign, hv_sort, and_self]
  have hB : BI (qu0_holeCount (qu0_openCount y 0) 0) (fn5_cut x t) (fn1_enter c 0) (hu_holes (hu_open (fn10_findSymbols s) 0) 0) (fun j => (hm_sort (fn10_findSymbols s) j).toNatClampNeg) id id id id id L n 0 0 0 := by
    refine ⟨⟨hR.cong ⟨rfl, rfl, rfl, rfl, rfl, rfl⟩ ?_, hL, hn, by omega, hTL, ?_, ?_, fun j hj => ⟨(hN j hj).1, (hN j hj).2.1⟩, fun j hj => by omega, fun j hj => by omega, fun j hj => by omega⟩, ⟨by omega, rfl, rfl, by omega, fun j hj => by omega⟩, ⟨rfl, rfl, fun j hj => by omega⟩, SI.start _, CX.e0 c⟩
    · unfold KS
      simp only [hv_holes, hv_open, and_self]
    · rw [hs']
      unfold sy4
      simp only [hv_holes, hv_open, hv_symbols, hv_place, hv_sign, hv_sort]
      exact hl
    · simp only [hv_holes, hv_open]
      exact hso
  obtain ⟨r1, r2, r3⟩ := l_reads (t := t) n 0 1 hg_fu hg_fu _ _ _ _ _ _ _ _ _ _ _ (by omega) (by rw [hg_fu_eq]; omega) (by rw [hg_fu_eq]; omega) (by omega) (by omega) hB (fun j hj => by omega)
  have eg : fn10_go (fn10_findSymbols s) 0 = hk (fn10_findSymbols s) (fn1_enter c 0) := by
    have := hk_go (fn10_findSymbols s) (ctx (fn10_findSymbols s)) 0
    rw [hk_ctx] at this
    rw [this, en_eq, en_eq]
  have F0 : fn0_reads y x c t = fn0_reads_c30 hg_fu (qu0_holeCount (qu0_openCount y 0) 0) (fn5_cut x t) (fn1_enter c 0) t (Int32.ofNat 0) (Int32.ofNat 1) := by
    rw [fq0_reads]
    rfl
  have F1 : fn10_build s = fn10_build_c23 hg_fu (hk (hu_holes (hu_open (fn10_findSymbols s) 0) 0) (fn1_enter c 0)) (Int32.ofNat 0) 1 := by
    rw [fq10_build, fn10_build_c4, eg]
    rfl
  refine ⟨⟨w1, trivial, r1⟩, ⟨w2, trivial, ?_⟩, ?_⟩
  · rw [eg]
    exact r2
  · rw [F0, F1]
    exact RX.trans hKJ r3
theorem RX.hm {s : hs} {A : Int32 × qt0 × qt5 × qt1} {B : Int32 × hs} (h : RX s A B) : A.1 = B.1 ∧ (A.1 = 0 ∨ A.1 = 1) ∧ KJ s B.2 ∧ Jh A.2.1 B.2 ∧ (¬ hm_compiled B.2 = 0 → FI A.2.2.1 B.2) ∧ qg0_compiled A.2.1 = A.1 ∧ (A.1 = 1 → qg0_holeCount A.2.1 = hm_holes B.2) := by
  obtain ⟨b, y', x', c', s', rfl, rfl, h3, h4, h5, h6, h7, h8⟩ := h
  have hb : ¬ hm_compiled (hk s' c') = 0 → b = 1 := fun q => by
    rcases h4 with h4 | h4
    · refine absurd ?_ q
      simp only [hv_hk]
      rw [h6, h4]
    · exact h4
  refine ⟨rfl, h4, h3.trans (KJ.hk s' c'), ⟨?_, ?_, ?_⟩, ?_, h5, ?_⟩
  · show qg0_compiled y' = hm_compiled (hk s' c')
    simp only [hv_hk]
    rw [h5, h6]
  · show qg0_faultPlace y' = hm_fault (hk s' c')
    simp only [hv_hk]
    exact h7
  · intro q
    obtain ⟨k, k1, k2, k3, k4⟩ := (h8 (hb q)).1
    refine ⟨k, k1, k2, ?_, ?_⟩
    · show hm_holes (hk s' c') = _
      simp only [hv_hk]
      exact k3
    · show ∀ i, i < k → qg0_holeCodes y' i = hm_contexts (hk s' c') i
      simp only [hv_hk]
      exact k4
  · intro q
    obtain ⟨so, T, C, O, dep, st, L, n, hA, hS, h5'⟩ := (h8 (hb q)).2
    refine ⟨so, T, C, O, dep, st, L, n, ?_, hS, h5'⟩
    obtain ⟨a1, a2, a3, a4, a5, a6, a7, a8, a9, a10, a11⟩ := hA
    refine ⟨a1.cong ⟨rfl, rfl, rfl, rfl, rfl, rfl⟩ ?_, a2, a3, a4, a5, ?_, ?_, a8, ?_, ?_, ?_⟩
    · unfold KS
      simp only [hv_hk, and_self]
    · simp only [hv_hk]; exact a6
    · simp only [hv_hk]; exact a7
    · simp only [hv_hk]; exact a9
    · simp only [hv_hk]; exact a10
    · simp only [hv_hk]; exact a11
  · intro q
    obtain ⟨k, k1, k2, k3, k4⟩ := (h8 q).1
    show qg0_holeCount y' = hm_holes (hk s' c')
    simp only [hv_hk]
    rw [k2, k3]
