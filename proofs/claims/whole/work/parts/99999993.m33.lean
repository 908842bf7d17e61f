/-! what holds between the calls -/
theorem Jr.cong {r : qt6} {s s' : hs} (h : Jr r s) (h1 : hm_typed s' = hm_typed s) (h2 : hm_row s' = hm_row s) : Jr r s' := by
  unfold Jr at h ⊢
  rw [h1, h2]
  exact h
theorem Jt.cong {r : qt6} {s s' : hs} (h : Jt r s) (h1 : hm_length s' = hm_length s) (h2 : hm_template s' = hm_template s) : Jt r s' := by
  unfold Jt at h ⊢
  rw [h1, h2]
  exact h
theorem Ju.cong {r : qt6} {s s' : hs} (h : Ju r s) (h1 : hm_size s' = hm_size s) (h2 : hm_out s' = hm_out s) : Ju r s' := by
  unfold Ju at h ⊢
  rw [h1, h2]
  exact h
theorem Jm.cong {m : qt2} {s s' : hs} (h : Jm m s) (h1 : hm_counts s' = hm_counts s) (h2 : hm_lengths s' = hm_lengths s) (h3 : hm_items s' = hm_items s) (h4 : ∀ v, v < 8 → hm_alone s' v = -1) : Jm m s' := by
  unfold Jm at h ⊢
  rw [h1, h2, h3]
  exact ⟨h.1, h.2.1, fun v hv => ⟨(h.2.2 v hv).1, h4 v hv⟩⟩
theorem Jz.cong {s s' : hs} (h : Jz s) (h3 : hm_items s' = hm_items s) : Jz s' := by
  unfold Jz at h ⊢
  rw [h3]
  exact h
theorem Jh.cong {y : qt0} {s s' : hs} (h : Jh y s) (h1 : hm_compiled s' = hm_compiled s) (h2 : hm_fault s' = hm_fault s) (h3 : hm_holes s' = hm_holes s) (h4 : hm_contexts s' = hm_contexts s) : Jh y s' := by
  unfold Jh at h ⊢
  rw [h1, h2, h3, h4]
  exact h
theorem Jh.off {y : qt0} {s s' : hs} (h : Jh y s) (h1 : hm_compiled s' = 0) (h2 : hm_fault s' = hm_fault s) : Jh (qu0_compiled y 0) s' := by
  refine ⟨?_, ?_, fun q => absurd h1 q⟩
  · simp only [qv0_compiled]
    exact h1.symm
  · simp only [qv0_compiled]
    rw [h2]
    exact h.2.1
def KF (s s' : hs) : Prop := hm_symbols s' = hm_symbols s ∧ hm_sort s' = hm_sort s ∧ hm_sign s' = hm_sign s ∧ hm_place s' = hm_place s ∧ hm_length s' = hm_length s ∧ hm_other s' = hm_other s ∧ hm_closing s' = hm_closing s ∧ hm_opener s' = hm_opener s ∧ hm_marked s' = hm_marked s
theorem FI.cong {x : qt5} {s s' : hs} (h : FI x s) (hk' : KF s s') : FI x s' := by
  obtain ⟨so, T, C, O, dep, st, L, n, hA, hS, h5'⟩ := h
  obtain ⟨k1, k2, k3, k4, k5, k6, k7, k8, k9⟩ := hk'
  refine ⟨so, T, C, O, dep, st, L, n, ?_, hS, h5'⟩
  obtain ⟨a1, a2, a3, a4, a5, a6, a7, a8, a9, a10, a11⟩ := hA
  refine ⟨a1.cong ⟨rfl, rfl, rfl, rfl, rfl, rfl⟩ ⟨k1, k2, k3, k4⟩, a2, a3, a4, a5, by rw [k5]; exact a6, by rw [k2]; exact a7, a8, by rw [k6, k7]; exact a9, by rw [k8]; exact a10, by rw [k9]; exact a11⟩
def hIv : lw_Iv := fun r t m y x _ u s => Jr r s ∧ Jt t s ∧ Jm m s ∧ Jh y s ∧ Ju u s ∧ Jz s ∧ (¬ hm_compiled s = 0 → FI x s)
theorem hIv.thr {r t : qt6} {m : qt2} {y : qt0} {x : qt5} {c : qt1} {u : qt6} {s : hs} (h : hIv r t m y x c u s) (v : Int32) : hIv r t m y x c u (hu_thrown s v) := by
  obtain ⟨h1, h2, h3, h4, h5, h6, h7⟩ := h
  refine ⟨h1.cong ?_ ?_, h2.cong ?_ ?_, h3.cong ?_ ?_ ?_ ?_, h4.cong ?_ ?_ ?_ ?_, h5.cong ?_ ?_, h6.cong ?_, fun q => (h7 ?_).cong ?_⟩
  all_goals try (simp only [hv_thrown])
  · exact fun v hv => (h3.2.2 v hv).2
  · simp only [hv_thrown] at q
    exact q
  · unfold KF
    simp only [hv_thrown, and_self]
/-- of a state with other rows -/
theorem z_item {r : qt6} {m : qt2} {s : hs} (hr : Jr r s) (h : Jm m s) (hz : Jz s) (p : Int32) : Jz (fn10_item s p).2 := by
  obtain ⟨k, hk, hs, hT⟩ := hr
  by_cases hp : 0 ≤ p ∧ p ≤ 7
  · obtain ⟨v, hv, rfl⟩ := v_of hp
    obtain ⟨n, hn, h1, h2⟩ := h.1 v hv
    have n0 : ¬ Int32.ofNat v < 0 := q_pos (by omega)
    have c2 : hm_counts (hu_thrown s 0) (Int32.ofNat v).toNatClampNeg = Int32.ofNat n := by rw [q_cl (by omega)]; exact h2
    have heq : Int32.ofNat n = 4 ↔ n = 4 := q_eq (b := 4) (by omega) (by omega)
    have t0 : hm_thrown (hu_thrown s 0) = 0 := rfl
    by_cases hn4 : n = 4
    · have e10 : fn10_item s (Int32.ofNat v) = (0, hu_thrown (hu_thrown s 0) 2) := by
        rw [fq10_item, if_neg n0, if_pos hp.2, fn10_item_c16, fn10_item_c19, if_pos t0, c2, if_pos (heq.mpr hn4), fn10_item_c41, if_neg (by show ¬ (2 : Int32) ≤ 0; decide)]
      rw [e10]
      refine hz.cong ?_
      simp only [hv_thrown]
    · have hq : v * 4 + n < 32 := by omega
      have eq2 : 4 * Int32.ofNat v + Int32.ofNat n = Int32.ofNat (v * 4 + n) := by
        rw [show (4 : Int32) = Int32.ofNat 4 from rfl, q_mul, q_add, Nat.mul_comm]
      have b1 : hm_typed (ha_lengths (hu_thrown s 0) (v * 4 + n) (Int32.ofNat k)) = Int32.ofNat k := by simp only [ha_lengths, hv_lengths, hv_thrown]; exact hs
      have b2 : hm_row (ha_lengths (hu_thrown s 0) (v * 4 + n) (Int32.ofNat k)) = hm_row s := by simp only [ha_lengths, hv_lengths, hv_thrown]
      have b3 : hm_items (ha_lengths (hu_thrown s 0) (v * 4 + n) (Int32.ofNat k)) = hm_items s := by simp only [ha_lengths, hv_lengths, hv_thrown]
      obtain ⟨w10, f10⟩ := l_item hk hv hq k 0 (ha_lengths (hu_thrown s 0) (v * 4 + n) (Int32.ofNat k)) hg_fu (by omega) (by rw [hg_fu_eq]; omega) b1 (by rw [b2]; exact fun j hj => (hT.2 j hj).2)
      rw [b2, b3] at f10
      have t9 : hm_typed (hu_thrown s 0) = Int32.ofNat k := hs
      have e10 : fn10_item s (Int32.ofNat v) = fn10_item_c73 hg_fu (ha_lengths (hu_thrown s 0) (v * 4 + n) (Int32.ofNat k)) (Int32.ofNat v) (Int32.ofNat (v * 4 + n)) (Int32.ofNat 0) := by
        rw [fq10_item, if_neg n0, if_pos hp.2, fn10_item_c16, fn10_item_c19, if_pos t0, c2, if_neg (fun q => hn4 (heq.mp q)), fn10_item_c41, if_pos (by show (0 : Int32) ≤ 0; decide), c2, eq2, q_cl (by omega), t9, fn10_item_c71]
        rfl
      rw [e10, f10]
      intro j
      have e : hm_items (ha_counts (hu_typed (hu_items (ha_lengths (hu_thrown s 0) (v * 4 + n) (Int32.ofNat k)) (fill (hm_items s) (40 * (v * 4 + n)) 0 k (hm_row s))) 0) v (hm_counts (ha_lengths (hu_thrown s 0) (v * 4 + n) (Int32.ofNat k)) v + 1)) = fill (hm_items s) (40 * (v * 4 + n)) 0 k (hm_row s) := by
        simp only [ha_counts, hv_counts, hv_typed, hv_items]
      show 0 ≤ hm_items (ha_counts (hu_typed (hu_items (ha_lengths (hu_thrown s 0) (v * 4 + n) (Int32.ofNat k)) (fill (hm_items s) (40 * (v * 4 + n)) 0 k (hm_row s))) 0) v (hm_counts (ha_lengths (hu_thrown s 0) (v * 4 + n) (Int32.ofNat k)) v + 1)) j ∧ hm_items (ha_counts (hu_typed (hu_items (ha_lengths (hu_thrown s 0) (v * 4 + n) (Int32.ofNat k)) (fill (hm_items s) (40 * (v * 4 + n)) 0 k (hm_row s))) 0) v (hm_counts (ha_lengths (hu_thrown s 0) (v * 4 + n) (Int32.ofNat k)) v + 1)) j ≤ 65535
      rw [e]
      unfold fill
      by_cases hj : 40 * (v * 4 + n) + 0 ≤ j ∧ j < 40 * (v * 4 + n) + k
      · rw [if_pos hj]
        exact (hT.2 (j - 40 * (v * 4 + n)) (by omega)).2.b
      · rw [if_neg hj]
        exact hz j
  · have t1 : ¬ hm_thrown (hu_thrown s 1) = 0 := by show ¬ (1 : Int32) = 0; decide
    have t2 : ¬ hm_thrown (hu_thrown s 1) ≤ 0 := by show ¬ (1 : Int32) ≤ 0; decide
    have e11 : fn10_item_c11 s p = (0, hu_thrown s 1) := by
      rw [fn10_item_c11, fn10_item_c16, fn10_item_c19, if_neg t1, fn10_item_c41, if_neg t2]
    have e10 : fn10_item s p = (0, hu_thrown s 1) := by
      rw [fq10_item, e11]
      grind
    rw [e10]
    refine hz.cong ?_
    simp only [hv_thrown]
/-! the calls -/
theorem k_type : ok_type hIv := by
  intro r t m y x c u s h p0 h0 h1
  obtain ⟨g1, g2, g3, g4, g5, g6, g7⟩ := h
  obtain ⟨w1, w2, e, j, a, b, es⟩ := m_type t m y x c u g1 p0 h0 h1
  refine ⟨w1, w2, e, ?_⟩
  rw [es] at j ⊢
  refine ⟨j, g2.cong ?_ ?_, g3.cong ?_ ?_ ?_ ?_, g4.cong ?_ ?_ ?_ ?_, g5.cong ?_ ?_, g6.cong ?_, fun q => (g7 ?_).cong ?_⟩
  all_goals try (simp only [hv_typed, hv_row, hv_thrown])
  · exact fun v hv => (g3.2.2 v hv).2
  · simp only [hv_typed, hv_row, hv_thrown] at q
    exact q
  · unfold KF
    simp only [hv_typed, hv_row, hv_thrown, and_self]
theorem k_wipe : ok_wipe hIv := by
  intro r t m y x c u s h
  obtain ⟨g1, g2, g3, g4, g5, g6, g7⟩ := h
  obtain ⟨w1, w2, e, j, es⟩ := m_wipe t m y x c u g1
  refine ⟨w1, w2, e, ?_⟩
  rw [es] at j ⊢
  refine ⟨j, g2.cong ?_ ?_, g3.cong ?_ ?_ ?_ ?_, g4.cong ?_ ?_ ?_ ?_, g5.cong ?_ ?_, g6.cong ?_, fun q => (g7 ?_).cong ?_⟩
  all_goals try (simp only [hv_typed, hv_thrown])
  · exact fun v hv => (g3.2.2 v hv).2
  · simp only [hv_typed, hv_thrown] at q
    exact q
  · unfold KF
    simp only [hv_typed, hv_thrown, and_self]
theorem k_add : ok_add hIv := by
  intro r t m y x c u s h
  have hI := h
  obtain ⟨g1, g2, g3, g4, g5, g6, g7⟩ := h
  rcases m_add m y x c u g1 g2 with ⟨w1, w2, e0, e1, j1, j2, ey, a, b, es⟩ | ⟨w1, w2, e0, es⟩
  · refine Or.inl ⟨w1, w2, trivial, e0, e1, ?_⟩
    rw [ey]
    rw [es] at j1 j2 ⊢
    refine ⟨j1, j2, g3.cong ?_ ?_ ?_ ?_, g4.off ?_ ?_, g5.cong ?_ ?_, g6.cong ?_, fun q => absurd ?_ q⟩
    all_goals try (simp only [hv_compiled, hv_typed, hv_length, hv_template, hv_thrown])
    exact fun v hv => (g3.2.2 v hv).2
  · refine Or.inr ⟨w1, w2, trivial, e0, ?_⟩
    rw [es]
    exact hI.thr 1
theorem k_clear : ok_clear hIv := by
  intro r t m y x c u s h
  obtain ⟨g1, g2, g3, g4, g5, g6, g7⟩ := h
  obtain ⟨w1, w2, e, j, ey, es⟩ := m_clear r m y x c u g2
  refine ⟨w1, w2, e, ?_⟩
  rw [ey]
  rw [es] at j ⊢
  refine ⟨g1.cong ?_ ?_, j, g3.cong ?_ ?_ ?_ ?_, g4.off ?_ ?_, g5.cong ?_ ?_, g6.cong ?_, fun q => absurd ?_ q⟩
  all_goals try (simp only [hv_compiled, hv_length, hv_thrown])
  exact fun v hv => (g3.2.2 v hv).2
theorem hIv.built {r t : qt6} {m : qt2} {y y' : qt0} {x x' : qt5} {c c' : qt1} {u : qt6} {s s' : hs} (h : hIv r t m y x c u s) (hK : KJ s s') (hh : Jh y' s') (hi : ¬ hm_compiled s' = 0 → FI x' s') : hIv r t m y' x' c' u s' := by
  obtain ⟨g1, g2, g3, g4, g5, g6, g7⟩ := h
  obtain ⟨k1, k2, k3, k4, k5, k6, k7, k8, k9, k10⟩ := hK
  exact ⟨g1.cong k1 k2, g2.cong k3 k4, g3.cong k5 k6 k7 (by rw [k8]; exact fun v hv => (g3.2.2 v hv).2), hh, g5.cong k9 k10, g6.cong k7, hi⟩
theorem k_compile : ok_compile hIv := by
  intro r t m y x c u s h
  obtain ⟨w1, w2, hR⟩ := m_reads y x c h.2.1
  obtain ⟨a1, a2, a3, a4, a5, a6, a7⟩ := hR.hm
  have hI := h.built (c' := (fn0_reads y x c t).2.2.2) a3 a4 a5
  rcases a2 with a2 | a2
  · have eb : (fn10_build s).1 = 0 := by rw [← a1]; exact a2
    have e10 : fn10_compile s = (0, hu_thrown (fn10_build s).2 1) := by rw [fq10_compile, if_pos eb]
    refine Or.inr ⟨⟨w1, a2⟩, w2, trivial, ?_, ?_⟩
    · rw [e10, fq10_thrown]
      rfl
    · rw [e10]
      exact hI.thr 1
  · have eb : ¬ (fn10_build s).1 = 0 := by rw [← a1, a2]; decide
    have ea : ¬ (fn0_reads y x c t).1 = 0 := by rw [a2]; decide
    have e10 : fn10_compile s = (hm_holes (hu_thrown (fn10_build s).2 0), hu_thrown (fn10_build s).2 0) := by rw [fq10_compile, if_neg eb]
    have e9 : fn9_compile r t m y x c u = (qg0_holeCount (fn0_reads y x c t).2.1, (fn0_reads y x c t).2.1, (fn0_reads y x c t).2.2.1, (fn0_reads y x c t).2.2.2) := by rw [fq9_compile, if_neg ea]
    refine Or.inl ⟨⟨w1, fun q => absurd q ea, fun _ => trivial⟩, w2, trivial, ?_, ?_, ?_⟩
    · rw [e10, fq10_thrown]
      rfl
    · rw [e9, e10]
      exact a7 a2
    · rw [e9, e10]
      exact hI.thr 0
theorem k_accepts : ok_accepts hIv := by
  intro r t m y x c u s h
  have h0 := h.thr 0
  obtain ⟨w1, w2, hR⟩ := m_reads y x c h0.2.1
  obtain ⟨a1, a2, a3, a4, a5, a6, a7⟩ := hR.hm
  have hI := h0.built (c' := (fn0_reads y x c t).2.2.2) a3 a4 a5
  have hfit : am_fit .boolean (.inl (fn0_reads y x c t).1) = true := by
    rcases a2 with a2 | a2
    · rw [a2]; exact bfit0
    · rw [a2]; exact bfit1
  rw [fq9_accepts, fq10_accepts]
  exact ⟨⟨w1, hfit⟩, ⟨w2, by rw [← a1]; exact hfit⟩, a1, hI⟩
theorem k_fault : ok_fault hIv := by
  intro r t m y x c u s h
  obtain ⟨w1, w2, e, es⟩ := m_fault r t m x c u h.2.2.2.1
  refine ⟨w1, w2, e, ?_⟩
  rw [es]
  exact h.thr 0
theorem k_hole : ok_hole hIv := by
  intro r t m y x c u s h p0
  obtain ⟨w1, w2, e, es⟩ := m_hole r t m x c u h.2.2.2.1 p0
  refine ⟨w1, w2, e, ?_⟩
  rw [es]
  exact h.thr 0
theorem k_written : ok_written hIv := by
  intro r t m y x c u s h
  obtain ⟨w1, w2, e, es⟩ := m_written r t m y x c h.2.2.2.2.1
  refine ⟨w1, w2, e, ?_⟩
  rw [es]
  exact h.thr 0
theorem k_letter : ok_letter hIv := by
  intro r t m y x c u s h p0
  obtain ⟨w1, w2, e, es⟩ := m_letter r t m y x c h.2.2.2.2.1 p0
  refine ⟨w1, w2, e, ?_⟩
  rw [es]
  exact h.thr 0
theorem k_forget : ok_forget hIv := by
  intro r t m y x c u s h p0
  have hI := h
  obtain ⟨g1, g2, g3, g4, g5, g6, g7⟩ := h
  rcases m_forget r t y x c u g3 p0 with ⟨w1, w2, e0, e1, j, a, es⟩ | ⟨w1, w2, e0, es⟩
  · refine Or.inl ⟨w1, w2, trivial, e0, e1, ?_⟩
    rw [es] at j ⊢
    refine ⟨g1.cong ?_ ?_, g2.cong ?_ ?_, j, g4.cong ?_ ?_ ?_ ?_, g5.cong ?_ ?_, g6.cong ?_, fun q => (g7 ?_).cong ?_⟩
    all_goals try (simp only [hv_counts, hv_thrown])
    · simp only [hv_counts, hv_thrown] at q
      exact q
    · unfold KF
      simp only [hv_counts, hv_thrown, and_self]
  · refine Or.inr ⟨w1, w2, trivial, e0, ?_⟩
    rw [es]
    exact hI.thr 1
theorem k_item : ok_item hIv := by
  intro r t m y x c u s h p0
  have hI := h
  obtain ⟨g1, g2, g3, g4, g5, g6, g7⟩ := h
  have hz := z_item g1 g3 g6 p0
  rcases m_item t y x c u g1 g3 p0 with ⟨w1, w2, e0, e1, j1, j2, a, b, d, es⟩ | ⟨w1, w2, e0, es⟩ | ⟨w1, w2, e0, em, es⟩
  · refine Or.inl ⟨w1, w2, trivial, e0, e1, ?_⟩
    rw [es] at j1 j2 hz ⊢
    refine ⟨j1, g2.cong ?_ ?_, j2, g4.cong ?_ ?_ ?_ ?_, g5.cong ?_ ?_, hz, fun q => (g7 ?_).cong ?_⟩
    all_goals try (simp only [hv_counts, hv_typed, hv_items, hv_lengths, hv_thrown])
    · simp only [hv_counts, hv_typed, hv_items, hv_lengths, hv_thrown] at q
      exact q
    · unfold KF
      simp only [hv_counts, hv_typed, hv_items, hv_lengths, hv_thrown, and_self]
  · refine Or.inr (Or.inl ⟨w1, w2, trivial, e0, ?_⟩)
    rw [es]
    exact hI.thr 1
  · refine Or.inr (Or.inr ⟨w1, w2, trivial, e0, ?_⟩)
    rw [es, em]
    exact (hI.thr 0).thr 2
theorem k_write : ok_write hIv := by
  intro r t m y x c u s h
  have hI := h
  obtain ⟨g1, g2, g3, g4, g5, g6, g7⟩ := h
  by_cases hc : hm_compiled s = 0
  · have hy : qg0_compiled y = 0 := g4.1.trans hc
    have t1 : ¬ hm_thrown (hu_thrown s 1) ≤ 0 := by show ¬ (1 : Int32) ≤ 0; decide
    have e10 : fn10_write s = (0, hu_thrown s 1) := by rw [fq10_write, if_pos hc, fn10_write_c13, fn10_write_c16, if_neg t1]
    refine Or.inr (Or.inl ⟨hy, ⟨fun _ => ⟨fun q => absurd q t1, fun _ => trivial⟩, fun q => absurd hc q⟩, trivial, ?_, ?_⟩)
    · rw [e10, fq10_thrown]
      rfl
    · rw [e10]
      exact hI.thr 1
  · have hy : ¬ qg0_compiled y = 0 := by rw [g4.1]; exact hc
    obtain ⟨w1, w2, em, s', hK, hal, hJ, hr⟩ := m_write (u := u) g3 g6 hc (g7 hc)
    have hI' : hIv r t m y x c (fn8_fill u x m).2.1 s' := by
      obtain ⟨th, al, de, lo, sa, a, b, c', rfl⟩ := hK
      refine ⟨g1.cong ?_ ?_, g2.cong ?_ ?_, g3.cong ?_ ?_ ?_ hal, g4.cong ?_ ?_ ?_ ?_, hJ, g6.cong ?_, fun q => (g7 hc).cong ?_⟩
      all_goals try (simp only [hv_thrown, hv_wrs])
      unfold KF
      simp only [hv_thrown, hv_wrs, and_self]
    rcases hr with ⟨r1, r2, r3⟩ | ⟨r1, r2, r3⟩
    · have n1 : ¬ (fn8_fill u x m).1 = 0 := by rw [r1]; decide
      have e9 : fn9_write r t m y x c u = (qg6_length (fn8_fill u x m).2.1, m, (fn8_fill u x m).2.1) := by rw [fq9_write, if_neg hy, if_neg n1, em]
      refine Or.inl ⟨⟨fun q => absurd q hy, fun _ => ⟨w1, fun q => absurd q n1, fun _ => trivial⟩⟩, w2, trivial, ?_, ?_, ?_⟩
      · rw [r3, fq10_thrown]
        exact r2
      · rw [e9, r3]
      · rw [e9, r3]
        exact hI'
    · refine Or.inr (Or.inr ⟨⟨hy, w1, r1⟩, w2, trivial, ?_, ?_⟩)
      · rw [r3, fq10_thrown]
        exact r2
      · rw [r3, em]
        exact hI'
theorem k_all : lw_ok hIv := ⟨k_type, k_wipe, k_add, k_clear, k_compile, k_accepts, k_fault, k_hole, k_item, k_forget, k_write, k_written, k_letter⟩
theorem k_start : hIv li_r li_r hi2_s1 li_y li_x li_c li_r hi10_s1 := by
  have hal : ∀ v, v < 8 → hi2_al v = -1 ∧ hi10_al v = -1 := by decide
  refine ⟨⟨0, by omega, rfl, rfl, fun i hi => by omega⟩, ⟨0, by omega, rfl, rfl, fun i hi => by omega⟩, ⟨fun v hv => ⟨0, by omega, rfl, rfl⟩, fun q hq => ⟨0, by omega, rfl, rfl, fun i hi => by omega⟩, hal⟩, ⟨rfl, rfl, fun q => absurd rfl q⟩, ⟨0, by omega, rfl, rfl, fun i hi => by omega⟩, fun j => ?_, fun q => absurd rfl q⟩
  show (0 : Int32) ≤ 0 ∧ (0 : Int32) ≤ 65535
  decide
