/-! cutting: the loop -/
theorem mx {a b : Nat} (ha : a < 2147483648) (hb : b < 2147483648) : fnJ_max (Int32.ofNat a) (Int32.ofNat b) = Int32.ofNat (max a b) := by
  rw [fqJ_max]
  by_cases h : a < b
  · rw [if_pos ((q_lt ha hb).mpr h), Nat.max_eq_right (by omega)]
  · rw [if_neg (fun q => h ((q_lt ha hb).mp q)), Nat.max_eq_left (by omega)]
theorem tk_len (x : qt5) (n : Nat) (K sg p : Int32) : qg5_templateLength (tk x n K sg p) = qg5_templateLength x := by
  unfold tk
  simp only [qv5_kinds, qv5_signs, qv5_variables, qv5_places, qv5_turns, qv5_closes, qv5_codes, qv5_count]
theorem pu_rest (s : hs) (n : Nat) (so sg p : Int32) : hm_length (pu s n so sg p) = hm_length s ∧ hm_template (pu s n so sg p) = hm_template s := by
  unfold pu
  simp only [hv_sort, hv_sign, hv_place, hv_symbols, and_self]
/-- the reference's state with other symbols -/
def sy4 (s : hs) (a b c : Nat → Int32) (e : Int32) : hs := hu_symbols (hu_place (hu_sign (hu_sort s a) b) c) e
theorem sy4_2 (s : hs) (a b c a' b' c' : Nat → Int32) (e e' : Int32) : sy4 (sy4 s a b c e) a' b' c' e' = sy4 s a' b' c' e' := by
  simp only [sy4, hu_symbols, hu_place, hu_sign, hu_sort]
theorem l_cut {t : qt6} {L : Nat} (hL : L ≤ 240) : ∀ (d p n : Nat) (x : qt5) (s : hs) (fu : Nat), L - p ≤ d → d < fu → p ≤ L → n ≤ p → RS x s n p → (∀ i, i < n → SN x i) → qg5_templateLength x = Int32.ofNat L → hm_length s = Int32.ofNat L → Tx t L (hm_template s) → wp5_cut_c15 fu x t (Int32.ofNat p) ∧ wp10_findSymbols_c7 fu s (Int32.ofNat p) ∧ ∃ n', n' ≤ L ∧ RS (fn5_cut_c15 fu x t (Int32.ofNat p)) (fn10_findSymbols_c7 fu s (Int32.ofNat p)) n' L ∧ (∀ i, i < n' → SN (fn5_cut_c15 fu x t (Int32.ofNat p)) i) ∧ qg5_templateLength (fn5_cut_c15 fu x t (Int32.ofNat p)) = Int32.ofNat L ∧ ∃ a b c e, fn10_findSymbols_c7 fu s (Int32.ofNat p) = sy4 s a b c e := by
  intro d
  induction d with
  | zero =>
    intro p n x s fu hd hf hp hn hR hN h1 h2 hT
    obtain ⟨fu, rfl⟩ : ∃ f, fu = f + 1 := ⟨fu - 1, by omega⟩
    have hpe : p = L := by omega
    subst hpe
    have e1 : qg5_templateLength x ≤ Int32.ofNat p := by rw [h1]; exact (q_le (by omega) (by omega)).mpr (Nat.le_refl _)
    have e2 : hm_length s ≤ Int32.ofNat p := by rw [h2]; exact (q_le (by omega) (by omega)).mpr (Nat.le_refl _)
    have f1 : fn5_cut_c15 (fu + 1) x t (Int32.ofNat p) = x := by
      unfold fn5_cut_c15
      rw [if_pos e1]
    have f2 : fn10_findSymbols_c7 (fu + 1) s (Int32.ofNat p) = s := by
      unfold fn10_findSymbols_c7
      rw [if_pos e2]
    rw [f1, f2]
    refine ⟨⟨fun _ => trivial, fun q => absurd e1 q⟩, ⟨fun _ => trivial, fun q => absurd e2 q⟩, n, hn, hR, hN, h1, hm_sort s, hm_sign s, hm_place s, hm_symbols s, ?_⟩
    simp only [sy4, hu_symbols, hu_place, hu_sign, hu_sort, hm_sort, hm_sign, hm_place, hm_symbols]
  | succ d ih =>
    intro p n x s fu hd hf hp hn hR hN h1 h2 hT
    obtain ⟨fu, rfl⟩ : ∃ f, fu = f + 1 := ⟨fu - 1, by omega⟩
    by_cases hpe : p = L
    · subst hpe
      have e1 : qg5_templateLength x ≤ Int32.ofNat p := by rw [h1]; exact (q_le (by omega) (by omega)).mpr (Nat.le_refl _)
      have e2 : hm_length s ≤ Int32.ofNat p := by rw [h2]; exact (q_le (by omega) (by omega)).mpr (Nat.le_refl _)
      have f1 : fn5_cut_c15 (fu + 1) x t (Int32.ofNat p) = x := by
        unfold fn5_cut_c15
        rw [if_pos e1]
      have f2 : fn10_findSymbols_c7 (fu + 1) s (Int32.ofNat p) = s := by
        unfold fn10_findSymbols_c7
        rw [if_pos e2]
      rw [f1, f2]
      refine ⟨⟨fun _ => trivial, fun q => absurd e1 q⟩, ⟨fun _ => trivial, fun q => absurd e2 q⟩, n, hn, hR, hN, h1, hm_sort s, hm_sign s, hm_place s, hm_symbols s, ?_⟩
      simp only [sy4, hu_symbols, hu_place, hu_sign, hu_sort, hm_sort, hm_sign, hm_place, hm_symbols]
    have e1 : ¬ qg5_templateLength x ≤ Int32.ofNat p := by rw [h1, q_le (by omega) (by omega)]; omega
    have e2 : ¬ hm_length s ≤ Int32.ofNat p := by rw [h2, q_le (by omega) (by omega)]; omega
    obtain ⟨wa, ea⟩ := Tx.at (i := p) hT hL (by omega) (by omega)
    rw [if_pos (show p < L by omega)] at ea
    have eb : hm_template s (Int32.ofNat p).toNatClampNeg = hm_template s p := by rw [q_cl (by omega)]
    have hin : am_inb (Int32.ofNat p) 240 = true := q_inb (by omega) (by omega)
    have ok := (hT.2 p (by omega)).2
    -- the step, with its symbol
    have go : ∀ (so w : Nat) (sg : Int32), so ≤ 6 → (if so = 1 then 3 else 1) ≤ w → p + w ≤ L → (so = 0 → okc sg) → (1 ≤ so → so ≤ 3 → 97 ≤ sg ∧ sg ≤ 104) → wp5_cut_c15 fu (tk x n (Int32.ofNat (so + 1)) sg (Int32.ofNat p)) t (Int32.ofNat (p + w)) ∧ wp10_findSymbols_c7 fu (pu s n (Int32.ofNat so) sg (Int32.ofNat p)) (Int32.ofNat (p + w)) ∧ ∃ n', n' ≤ L ∧ RS (fn5_cut_c15 fu (tk x n (Int32.ofNat (so + 1)) sg (Int32.ofNat p)) t (Int32.ofNat (p + w))) (fn10_findSymbols_c7 fu (pu s n (Int32.ofNat so) sg (Int32.ofNat p)) (Int32.ofNat (p + w))) n' L ∧ (∀ i, i < n' → SN (fn5_cut_c15 fu (tk x n (Int32.ofNat (so + 1)) sg (Int32.ofNat p)) t (Int32.ofNat (p + w))) i) ∧ qg5_templateLength (fn5_cut_c15 fu (tk x n (Int32.ofNat (so + 1)) sg (Int32.ofNat p)) t (Int32.ofNat (p + w))) = Int32.ofNat L ∧ ∃ a b c e, fn10_findSymbols_c7 fu (pu s n (Int32.ofNat so) sg (Int32.ofNat p)) (Int32.ofNat (p + w)) = sy4 s a b c e := by
      intro so w sg g1 g2 g3 g4 g5
      obtain ⟨r1, r2⟩ := hR.push hN (by omega) g2 g1 g4 g5
      have hw1 : 1 ≤ w := by
        by_cases h : so = 1
        · rw [if_pos h] at g2; omega
        · rw [if_neg h] at g2; exact g2
      obtain ⟨k1, k2, n', k3, k4, k5, k6, a, b, c, e, k7⟩ := ih (p + w) (n + 1) _ _ fu (by omega) (by omega) g3 (by omega) r1 r2 (by rw [tk_len]; exact h1) (by rw [(pu_rest ..).1]; exact h2) (by rw [(pu_rest ..).2]; exact hT)
      refine ⟨k1, k2, n', k3, k4, k5, k6, a, b, c, e, ?_⟩
      rw [k7]
      exact sy4_2 ..
    by_cases h123 : hm_template s p = 123
    · obtain ⟨so, w, sg, g1, g2, g3, g4, g5, w5, w10, f5, f10⟩ := brace hR.1 hR.2.1 (by omega) hT hL h2 (show p < L by omega)
      have hw1 : 1 ≤ w := by
        by_cases h : so = 1
        · rw [if_pos h] at g2; omega
        · rw [if_neg h] at g2; exact g2
      have em : Int32.ofNat p + fnJ_max (Int32.ofNat w) 1 = Int32.ofNat (p + w) := by
        rw [show (1 : Int32) = Int32.ofNat 1 from rfl, mx (by omega) (by omega), Nat.max_eq_left hw1, q_add]
      have F5 : fn5_cut_c15 (fu + 1) x t (Int32.ofNat p) = fn5_cut_c15 fu (tk x n (Int32.ofNat (so + 1)) sg (Int32.ofNat p)) t (Int32.ofNat (p + w)) := by
        conv => lhs; unfold fn5_cut_c15
        rw [if_neg e1, ea, if_pos h123, f5]
        show fn5_cut_c15 fu (tk x n (Int32.ofNat (so + 1)) sg (Int32.ofNat p)) t (Int32.ofNat p + fnJ_max (Int32.ofNat w) 1) = _
        rw [em]
      have F10 : fn10_findSymbols_c7 (fu + 1) s (Int32.ofNat p) = fn10_findSymbols_c7 fu (pu s n (Int32.ofNat so) sg (Int32.ofNat p)) (Int32.ofNat (p + w)) := by
        conv => lhs; unfold fn10_findSymbols_c7
        rw [if_neg e2, eb, if_pos h123, f10]
      obtain ⟨k1, k2, k3⟩ := go so w sg g1 g2 g3 g4 g5
      rw [F5, F10]
      refine ⟨⟨fun q => absurd q e1, fun _ => ⟨wa, fun _ => ⟨w5, trivial, ?_⟩, fun q => absurd (ea.trans h123) q⟩⟩, ⟨fun q => absurd q e2, fun _ => ⟨hin, fun _ => ⟨w10, ?_⟩, fun q => absurd (eb.trans h123) q⟩⟩, k3⟩
      · rw [f5]
        show wp5_cut_c15 fu (tk x n (Int32.ofNat (so + 1)) sg (Int32.ofNat p)) t (Int32.ofNat p + fnJ_max (Int32.ofNat w) 1)
        rw [em]
        exact k1
      · rw [f10]
        exact k2
    · obtain ⟨w5, f5⟩ := tk_ok hR.1 (show n < 240 by omega) 1 (hm_template s p) (Int32.ofNat p) 1 ok.b.1 ok.b.2
      obtain ⟨w10, f10⟩ := pu_ok hR.2.1 (show n < 240 by omega) 0 (hm_template s p) (Int32.ofNat p) 1 ok.b.1 ok.b.2
      obtain ⟨k1, k2, k3⟩ := go 0 1 (hm_template s p) (by omega) (by decide) (by omega) (fun _ => ok) (fun q => by omega)
      have em : Int32.ofNat p + fnJ_max 1 1 = Int32.ofNat (p + 1) := by
        rw [show (1 : Int32) = Int32.ofNat 1 from rfl, mx (by omega) (by omega), q_add]
        rfl
      have F5 : fn5_cut_c15 (fu + 1) x t (Int32.ofNat p) = fn5_cut_c15 fu (tk x n (Int32.ofNat (0 + 1)) (hm_template s p) (Int32.ofNat p)) t (Int32.ofNat (p + 1)) := by
        conv => lhs; unfold fn5_cut_c15
        rw [if_neg e1, ea, if_neg h123, f5]
        show fn5_cut_c15 fu (tk x n 1 (hm_template s p) (Int32.ofNat p)) t (Int32.ofNat p + fnJ_max 1 1) = _
        rw [em]
        rfl
      have F10 : fn10_findSymbols_c7 (fu + 1) s (Int32.ofNat p) = fn10_findSymbols_c7 fu (pu s n (Int32.ofNat 0) (hm_template s p) (Int32.ofNat p)) (Int32.ofNat (p + 1)) := by
        conv => lhs; unfold fn10_findSymbols_c7
        rw [if_neg e2, eb, if_neg h123, f10, ← q_1]
        rfl
      rw [F5, F10]
      refine ⟨⟨fun q => absurd q e1, fun _ => ⟨wa, fun q => absurd (ea.symm.trans q) h123, fun _ => ⟨wa, by rw [ea]; exact w5, trivial, ?_⟩⟩⟩, ⟨fun q => absurd q e2, fun _ => ⟨hin, fun q => absurd (eb.symm.trans q) h123, fun _ => ⟨hin, by rw [eb]; exact w10, ?_⟩⟩⟩, k3⟩
      · rw [ea, f5]
        show wp5_cut_c15 fu (tk x n 1 (hm_template s p) (Int32.ofNat p)) t (Int32.ofNat p + fnJ_max 1 1)
        rw [em]
        exact k1
      · rw [eb, f10]
        show wp10_findSymbols_c7 fu (pu s n 0 (hm_template s p) (Int32.ofNat p)) (Int32.ofNat p + 1)
        rw [q_1]
        exact k2
theorem m_cut {t : qt6} {s : hs} (x : qt5) (ht : Jt t s) : wp5_cut x t ∧ wp10_findSymbols s ∧ ∃ L n, L ≤ 240 ∧ n ≤ L ∧ hm_length s = Int32.ofNat L ∧ RS (fn5_cut x t) (fn10_findSymbols s) n L ∧ (∀ i, i < n → SN (fn5_cut x t) i) ∧ qg5_templateLength (fn5_cut x t) = Int32.ofNat L ∧ ∃ a b c e, fn10_findSymbols s = sy4 s a b c e := by
  obtain ⟨L, hL, hl, hT⟩ := ht
  have a1 : RS (qu5_templateLength (qu5_count x 0) (qg6_length t)) (hu_symbols s 0) 0 0 := ⟨rfl, rfl, fun i hi => by omega, fun i hi => by omega⟩
  obtain ⟨k1, k2, n, k3, k4, k5, k6, a, b, c, e, k7⟩ := l_cut (t := t) hL L 0 0 (qu5_templateLength (qu5_count x 0) (qg6_length t)) (hu_symbols s 0) hg_fu (by omega) (by rw [hg_fu_eq]; omega) (by omega) (by omega) a1 (fun i hi => by omega) hT.1 hl hT
  have F5 : fn5_cut x t = fn5_cut_c15 hg_fu (qu5_templateLength (qu5_count x 0) (qg6_length t)) t (Int32.ofNat 0) := by
    rw [fq5_cut, fn5_cut_c5, fn5_cut_c13]
    rfl
  have F10 : fn10_findSymbols s = fn10_findSymbols_c7 hg_fu (hu_symbols s 0) (Int32.ofNat 0) := by
    rw [fq10_findSymbols]
    rfl
  rw [F5, F10]
  refine ⟨k1, k2, L, n, hL, k3, hl, k4, k5, k6, a, b, c, e, ?_⟩
  rw [k7]
  simp only [sy4, hu_symbols, hu_place, hu_sign, hu_sort]
