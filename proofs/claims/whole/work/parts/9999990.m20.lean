/-! compiling: the loop over the symbols -/
def FI (x : qt5) (s : hs) : Prop := ∃ (so T C O dep st : Nat → Nat) (L n : Nat), BA x s so T C O L n n ∧ SI so T C O dep st n 0 ∧ ∀ j, j < n → so j ≤ 5
def FH (y : qt0) (s : hs) : Prop := ∃ k, k ≤ 80 ∧ qg0_holeCount y = Int32.ofNat k ∧ hm_holes s = Int32.ofNat k ∧ ∀ i, i < k → qg0_holeCodes y i = hm_contexts s i
def RE (b : Int32) (y : qt0) (x : qt5) (s : hs) : Prop := (b = 0 ∨ b = 1) ∧ qg0_compiled y = b ∧ hm_compiled s = b ∧ qg0_faultPlace y = hm_fault s ∧ (b = 1 → FH y s ∧ FI x s)
/-- the results of both, alike -/
def RX (s : hs) (A : Int32 × qt0 × qt5 × qt1) (B : Int32 × hs) : Prop := ∃ b y' x' c' s', A = (b, y', x', c') ∧ B = (b, hk s' c') ∧ KJ s s' ∧ RE b y' x' s'
theorem bfit0 : am_fit .boolean (.inl (0 : Int32)) = true := by decide
theorem bfit1 : am_fit .boolean (.inl (1 : Int32)) = true := by decide
theorem e_no (y : qt0) (x : qt5) (c : qt1) (t : qt6) {v p : Int32} (hw : wp5_place x v) (hp : fn5_place x v = p) : wp0_reads_c115 y x c t v ∧ fn0_reads_c115 y x c t v = (0, qu0_faultPlace (qu0_compiled y 0) p, x, c) := by
  constructor
  · refine ⟨bfit0, fun _ => ⟨hw, ?_⟩, fun w => absurd ?_ w⟩
    · show am_fit .boolean (.inl (0 : Int32)) = true
      exact bfit0
    · rfl
  · unfold fn0_reads_c115 fn0_reads_c116 fn0_reads_c119
    rw [if_pos (show qg0_compiled (qu0_compiled y 0) = 0 from rfl), hp]
    rfl
theorem e_no10 (s : hs) {v1 v2 p : Int32} (hw : v2 = 0 → am_inb v1 240 = true) (hp : (if v2 = 0 then hm_place s v1.toNatClampNeg else hm_length s) = p) : wp10_build_c105 s v1 v2 ∧ fn10_build_c105 s v1 v2 = (0, hu_fault (hu_compiled s 0) p) := by
  constructor
  · exact ⟨bfit0, fun _ => ⟨fun q => ⟨hw q, bfit0⟩, fun _ => bfit0⟩, fun w => absurd rfl w⟩
  · unfold fn10_build_c105 fn10_build_c106 fn10_build_c112 fn10_build_c138
    rw [if_pos rfl, ← hp]
    by_cases h : v2 = 0
    · rw [if_pos h, if_pos h]; rfl
    · rw [if_neg h, if_neg h]; rfl
theorem RX.no (s : hs) (y : qt0) (x : qt5) (c : qt1) (p : Int32) : RX s (0, qu0_faultPlace (qu0_compiled y 0) p, x, c) (0, hu_fault (hu_compiled (hk s c) 0) p) := by
  refine ⟨0, _, _, _, hu_fault (hu_compiled s 0) p, rfl, ?_, ?_, Or.inl rfl, rfl, rfl, rfl, fun q => absurd q (by decide)⟩
  · rw [hc_compiled, hc_fault]
  · unfold KJ
    simp only [hv_fault, hv_compiled, and_self]
theorem RX.trans {s s' : hs} {A : Int32 × qt0 × qt5 × qt1} {B : Int32 × hs} (h : KJ s s') (r : RX s' A B) : RX s A B := by
  obtain ⟨b, y, x, c, s2, h1, h2, h3, h4⟩ := r
  exact ⟨b, y, x, c, s2, h1, h2, h.trans h3, h4⟩
theorem e_ref {x : qt5} {s : hs} {so T C O : Nat → Nat} {L n i : Nat} (h : BA x s so T C O L n i) (hi : i < n) (y : qt0) (c : qt1) (t : qt6) (fu fu' : Nat) : wp0_reads_c30 (fu + 1) y x c t (Int32.ofNat i) 0 ∧ wp10_build_c23 (fu' + 1) (hk s c) (Int32.ofNat i) 0 ∧ RX s (fn0_reads_c30 (fu + 1) y x c t (Int32.ofNat i) 0) (fn10_build_c23 (fu' + 1) (hk s c) (Int32.ofNat i) 0) := by
  obtain ⟨a1, a2, a3, a4, a5, a6, a7, a8, a9, a10, a11⟩ := h
  have hcnt := a1.1
  have hsy : hm_symbols (hk s c) = Int32.ofNat n := by simp only [hv_hk]; exact a1.2.1
  have e1 : ¬ qg5_count x ≤ Int32.ofNat i := by rw [hcnt, q_le (by omega) (by omega)]; omega
  have e2 : ¬ hm_symbols (hk s c) ≤ Int32.ofNat i := by rw [hsy, q_le (by omega) (by omega)]; omega
  obtain ⟨so', g1, g2, g3, g4, g5, g6, g7, g8, g9⟩ := a1.2.2.1 i hi
  have hp : fn5_place x (Int32.ofNat i) = Int32.ofNat (pl s i) := by
    rw [fq5_place, has1 hcnt (by omega) hi, if_neg (by decide), q_cl (by omega)]
    exact g6
  obtain ⟨w0, f0⟩ := e_no y x c t (v := Int32.ofNat i) (wp_has hcnt (by omega) (by omega)) hp
  obtain ⟨w1, f1⟩ := e_no10 (hk s c) (v1 := Int32.ofNat i) (v2 := 0) (p := Int32.ofNat (pl s i)) (fun _ => q_inb (by omega) (by omega)) (by
    rw [if_pos rfl, q_cl (by omega)]
    simp only [hv_hk]
    exact g7)
  have z0 : (0 : Int32) ≤ 0 := by decide
  have W0 : wp0_reads_c89 y x c t (Int32.ofNat i) 0 := ⟨fun _ => w0, fun w => absurd z0 w⟩
  have W1 : wp10_build_c83 (hk s c) (Int32.ofNat i) 0 := ⟨fun _ => w1, fun w => absurd rfl w⟩
  have F0 : fn0_reads_c30 (fu + 1) y x c t (Int32.ofNat i) 0 = (0, qu0_faultPlace (qu0_compiled y 0) (Int32.ofNat (pl s i)), x, c) := by
    unfold fn0_reads_c30
    rw [if_neg e1, if_pos z0, fn0_reads_c89, if_pos z0, f0]
  have F1 : fn10_build_c23 (fu' + 1) (hk s c) (Int32.ofNat i) 0 = (0, hu_fault (hu_compiled (hk s c) 0) (Int32.ofNat (pl s i))) := by
    unfold fn10_build_c23
    rw [if_neg e2, if_pos rfl, fn10_build_c83, if_pos rfl, f1]
  refine ⟨⟨fun w => absurd w e1, fun _ => ⟨fun _ => W0, fun w => absurd z0 w⟩⟩, ⟨fun w => absurd w e2, fun _ => ⟨fun _ => W1, fun w => absurd rfl w⟩⟩, ?_⟩
  rw [F0, F1]
  exact RX.no ..
theorem e_end {y : qt0} {x : qt5} {c : qt1} {s : hs} {so T C O dep st : Nat → Nat} {L n k H : Nat} (h : BI y x c s so T C O dep st L n n k H) (h5 : ∀ j, j < n → so j ≤ 5) (t : qt6) {w : Nat} (hw : 1 ≤ w) (hw' : w ≤ 1000) (fu fu' : Nat) : wp0_reads_c30 (fu + 1) y x c t (Int32.ofNat n) (Int32.ofNat w) ∧ wp10_build_c23 (fu' + 1) (hk s c) (Int32.ofNat n) 1 ∧ RX s (fn0_reads_c30 (fu + 1) y x c t (Int32.ofNat n) (Int32.ofNat w)) (fn10_build_c23 (fu' + 1) (hk s c) (Int32.ofNat n) 1) := by
  have hB := h
  obtain ⟨⟨a1, a2, a3, a4, a5, a6, a7, a8, a9, a10, a11⟩, ⟨g1, g2, g3, g4, g5⟩, ⟨k1, k2, k3⟩, hS, hX⟩ := h
  have hcnt := a1.1
  have hk6 := hS.1
  have hsy : hm_symbols (hk s c) = Int32.ofNat n := by simp only [hv_hk]; exact a1.2.1
  have e1 : qg5_count x ≤ Int32.ofNat n := by rw [hcnt, q_le (by omega) (by omega)]; omega
  have e2 : hm_symbols (hk s c) ≤ Int32.ofNat n := by rw [hsy, q_le (by omega) (by omega)]; omega
  have hp : fn5_place x (Int32.ofNat n) = Int32.ofNat L := by
    rw [fq5_place, has0 hcnt (by omega) (Nat.le_refl _) (by omega), if_pos rfl]
    exact a5
  obtain ⟨w0, f0⟩ := e_no y x c t (v := Int32.ofNat n) (wp_has hcnt (by omega) (by omega)) hp
  obtain ⟨w1, f1⟩ := e_no10 (hk s c) (v1 := Int32.ofNat n) (v2 := 1) (p := Int32.ofNat L) (fun q => absurd q (by decide)) (by
    rw [if_neg (by decide)]
    simp only [hv_hk]
    exact a6)
  have z0 : ¬ Int32.ofNat w ≤ 0 := fun q => by have := (q_le (b := 0) (by omega) (by omega)).mp q; omega
  have z1 : ¬ (1 : Int32) = 0 := by decide
  have o1 : qg0_openCount y = 0 ↔ k = 0 := by rw [k1]; exact q_eq (b := 0) (by omega) (by omega)
  have o2 : hm_open (hk s c) = 0 ↔ k = 0 := by simp only [hv_hk]; rw [k2]; exact q_eq (b := 0) (by omega) (by omega)
  have o3 : hm_context (hk s c) = 0 ↔ qg1_name c = 0 := by rw [hk_mname]
  have F0 : fn0_reads_c30 (fu + 1) y x c t (Int32.ofNat n) (Int32.ofNat w) = fn0_reads_c89 y x c t (Int32.ofNat n) (Int32.ofNat w) := by
    conv => lhs; unfold fn0_reads_c30
    rw [if_pos e1]
  have F1 : fn10_build_c23 (fu' + 1) (hk s c) (Int32.ofNat n) 1 = fn10_build_c83 (hk s c) (Int32.ofNat n) 1 := by
    conv => lhs; unfold fn10_build_c23
    rw [if_pos e2]
  suffices hh : wp0_reads_c89 y x c t (Int32.ofNat n) (Int32.ofNat w) ∧ wp10_build_c83 (hk s c) (Int32.ofNat n) 1 ∧ RX s (fn0_reads_c89 y x c t (Int32.ofNat n) (Int32.ofNat w)) (fn10_build_c83 (hk s c) (Int32.ofNat n) 1) by
    rw [F0, F1]
    exact ⟨⟨fun _ => hh.1, fun q => absurd e1 q⟩, ⟨fun _ => hh.2.1, fun q => absurd e2 q⟩, hh.2.2⟩
  by_cases h1 : k = 0
  · by_cases h2 : qg1_name c = 0
    · have W0 : wp0_reads_c116 y x c t (Int32.ofNat n) 1 := ⟨bfit1, fun q => absurd q (by show ¬ (1 : Int32) = 0; decide), fun _ => bfit1⟩
      have W1 : wp10_build_c106 (hk s c) (Int32.ofNat n) 1 1 := ⟨bfit1, fun q => absurd q (by decide), fun _ => bfit1⟩
      refine ⟨⟨fun q => absurd q z0, fun _ => ⟨fun _ => ⟨fun _ => W0, fun q => absurd h2 q⟩, fun q => absurd (o1.mpr h1) q⟩⟩, ⟨fun q => absurd q z1, fun _ => ⟨fun _ => ⟨fun _ => W1, fun q => absurd (o3.mpr h2) q⟩, fun q => absurd (o2.mpr h1) q⟩⟩, ?_⟩
      have E0 : fn0_reads_c89 y x c t (Int32.ofNat n) (Int32.ofNat w) = (1, qu0_faultPlace (qu0_compiled y 1) (-1), x, c) := by
        rw [fn0_reads_c89, if_neg z0, if_pos (o1.mpr h1), if_pos h2, fn0_reads_c116, fn0_reads_c119, if_neg (show ¬ qg0_compiled (qu0_compiled y 1) = 0 from by show ¬ (1 : Int32) = 0; decide)]
        rfl
      have E1 : fn10_build_c83 (hk s c) (Int32.ofNat n) 1 = (1, hu_fault (hu_compiled (hk s c) 1) (-1)) := by
        rw [fn10_build_c83, if_neg z1, if_pos (o2.mpr h1), if_pos (o3.mpr h2), fn10_build_c106, fn10_build_c112, if_neg z1]
        rfl
      rw [E0, E1]
      subst h1
      refine ⟨1, _, _, _, hu_fault (hu_compiled s 1) (-1), rfl, ?_, ?_, Or.inr rfl, rfl, rfl, rfl, fun _ => ⟨⟨H, g1, g2, g3, g5⟩, so, T, C, O, dep, st, L, n, ?_, hS, h5⟩⟩
      · rw [hc_compiled, hc_fault]
      · unfold KJ
        simp only [hv_fault, hv_compiled, and_self]
      · exact ⟨a1.cong ⟨rfl, rfl, rfl, rfl, rfl, rfl⟩ ⟨rfl, rfl, rfl, rfl⟩, a2, a3, a4, a5, a6, a7, a8, a9, a10, a11⟩
    · refine ⟨⟨fun q => absurd q z0, fun _ => ⟨fun _ => ⟨fun q => absurd q h2, fun _ => w0⟩, fun _ => w0⟩⟩, ⟨fun q => absurd q z1, fun _ => ⟨fun _ => ⟨fun q => absurd (o3.mp q) h2, fun _ => w1⟩, fun _ => w1⟩⟩, ?_⟩
      rw [fn0_reads_c89, if_neg z0, if_pos (o1.mpr h1), if_neg h2, f0, fn10_build_c83, if_neg z1, if_pos (o2.mpr h1), if_neg (fun q => h2 (o3.mp q)), f1]
      exact RX.no ..
  · refine ⟨⟨fun q => absurd q z0, fun _ => ⟨fun q => absurd (o1.mp q) h1, fun _ => w0⟩⟩, ⟨fun q => absurd q z1, fun _ => ⟨fun q => absurd (o2.mp q) h1, fun _ => w1⟩⟩, ?_⟩
    rw [fn0_reads_c89, if_neg z0, if_neg (fun q => h1 (o1.mp q)), f0, fn10_build_c83, if_neg z1, if_neg (fun q => h1 (o2.mp q)), f1]
    exact RX.no ..
theorem BA.ch {x : qt5} {s : hs} {so T C O : Nat → Nat} {L n i : Nat} (h : BA x s so T C O L n i) : CH x s n (fun a => if a < n ∧ so a = 0 then hm_sign s a else 0) := by
  obtain ⟨a1, a2, a3, a4, a5, a6, a7, -⟩ := h
  refine ⟨a1.1, a1.2.1, by omega, fun a ha => ?_, fun a ha => ?_⟩
  · show a < n ∧ okc (if a < n ∧ so a = 0 then hm_sign s a else 0)
    have ha : (if a < n ∧ so a = 0 then hm_sign s a else 0) ≠ 0 := ha
    by_cases h : a < n ∧ so a = 0
    · rw [if_pos h] at ha ⊢
      obtain ⟨so', g1, g2, g3, g4, g5, g6, g7, g8, g9⟩ := a1.2.2.1 a h.1
      have : so' = so a := (q_eq (by omega) (by have := (a7 a h.1).2; omega)).mp (g2.symm.trans (a7 a h.1).1)
      exact ⟨h.1, g8 (by omega)⟩
    · rw [if_neg h] at ha
      exact absurd rfl ha
  · obtain ⟨so', g1, g2, g3, g4, g5, g6, g7, g8, g9⟩ := a1.2.2.1 a ha
    have hle := (a7 a ha).2
    have e : so' = so a := (q_eq (by omega) (by omega)).mp (g2.symm.trans (a7 a ha).1)
    have hs0 : hm_sort s a = 0 ↔ so a = 0 := by rw [(a7 a ha).1]; exact q_eq (b := 0) (by omega) (by omega)
    show qg5_signs x a = (if a < n ∧ so a = 0 then hm_sign s a else 0) ∧ (if hm_sort s a = 0 then hm_sign s a = (if a < n ∧ so a = 0 then hm_sign s a else 0) else (if a < n ∧ so a = 0 then hm_sign s a else 0) = 0)
    by_cases h : so a = 0
    · rw [if_pos (show a < n ∧ so a = 0 from ⟨ha, h⟩), if_pos (hs0.mpr h), g4, if_pos (show so' = 0 by omega)]
      exact ⟨rfl, rfl⟩
    · rw [if_neg (show ¬ (a < n ∧ so a = 0) from fun q => h q.2), if_neg (fun q => h (hs0.mp q)), g4, if_neg (show ¬ so' = 0 by omega)]
      exact ⟨rfl, rfl⟩
theorem SI.run {so T C O dep st : Nat → Nat} {k : Nat} : ∀ (w i : Nat), SI so T C O dep st i k → (∀ j, i ≤ j → j < i + w → so j = 0) → SI so T C O dep st (i + w) k := by
  intro w
  induction w with
  | zero => intro i h _; exact h
  | succ w ih =>
    intro i h hz
    have h1 := ih i h (fun j h1 h2 => hz j h1 (by omega))
    have h0 := hz (i + w) (by omega) (by omega)
    exact h1.plain (by omega) (by omega) (by omega) (by omega)
theorem BI.run {y : qt0} {x : qt5} {c c' : qt1} {s : hs} {so T C O dep st : Nat → Nat} {L n i k H w : Nat} (h : BI y x c s so T C O dep st L n i k H) (hz : ∀ j, i ≤ j → j < i + w → so j = 0) (hn : i + w ≤ n) (hc : CX c') : BI y x c' s so T C O dep st L n (i + w) k H := by
  obtain ⟨⟨a1, a2, a3, a4, a5, a6, a7, a8, a9, a10, a11⟩, ⟨g1, g2, g3, g4, g5⟩, hK, hS, hX⟩ := h
  have hj : ∀ j, j < i + w → so j ≠ 0 → j < i := fun j h1 h2 => by
    by_cases h3 : j < i
    · exact h3
    · exact absurd (hz j (by omega) h1) h2
  refine ⟨⟨a1, a2, a3, hn, a5, a6, a7, a8, fun j h1 h2 => a9 j (hj j h1 (by rcases h2 with h2 | h2 <;> omega)) h2, fun j h1 h2 => a10 j (hj j h1 (by rcases h2 with h2 | h2 <;> omega)) h2, fun j h1 h2 => a11 j (hj j h1 (by omega)) h2⟩, ⟨g1, g2, g3, ?_, g5⟩, hK, hS.run w i hz, hc⟩
  have := a1.mono w i hn
  omega
theorem l_reads {t : qt6} {so : Nat → Nat} {L n : Nat} : ∀ (d i w fu fu' : Nat) (y : qt0) (x : qt5) (c : qt1) (s : hs) (T C O dep st : Nat → Nat) (k H : Nat), n - i ≤ d → d + 1 < fu → d + 1 < fu' → 1 ≤ w → w ≤ 1000 → BI y x c s so T C O dep st L n i k H → (∀ j, j < i → so j ≤ 5) → wp0_reads_c30 fu y x c t (Int32.ofNat i) (Int32.ofNat w) ∧ wp10_build_c23 fu' (hk s c) (Int32.ofNat i) 1 ∧ RX s (fn0_reads_c30 fu y x c t (Int32.ofNat i) (Int32.ofNat w)) (fn10_build_c23 fu' (hk s c) (Int32.ofNat i) 1) := by
  intro d
  induction d with
  | zero =>
    intro i w fu fu' y x c s T C O dep st k H hd hf hf' hw hw' h h5
    obtain ⟨fu, rfl⟩ : ∃ f, fu = f + 1 := ⟨fu - 1, by omega⟩
    obtain ⟨fu', rfl⟩ : ∃ f, fu' = f + 1 := ⟨fu' - 1, by omega⟩
    have hin : i = n := by have := h.1.2.2.2.1; omega
    subst hin
    exact e_end h h5 t hw hw' fu fu'
  | succ d ih =>
    intro i w fu fu' y x c s T C O dep st k H hd hf hf' hw hw' h h5
    obtain ⟨fu, rfl⟩ : ∃ f, fu = f + 1 := ⟨fu - 1, by omega⟩
    obtain ⟨fu', rfl⟩ : ∃ f, fu' = f + 1 := ⟨fu' - 1, by omega⟩
    by_cases hin : i = n
    · subst hin
      exact e_end h h5 t hw hw' fu fu'
    have hi : i < n := by have := h.1.2.2.2.1; omega
    have hn : n ≤ 240 := by have := h.1.2.1; have := h.1.2.2.1; omega
    have hcnt := h.1.1.1
    have hsy : hm_symbols (hk s c) = Int32.ofNat n := by simp only [hv_hk]; exact h.1.1.2.1
    have e1 : ¬ qg5_count x ≤ Int32.ofNat i := by rw [hcnt, q_le (by omega) (by omega)]; omega
    have e2 : ¬ hm_symbols (hk s c) ≤ Int32.ofNat i := by rw [hsy, q_le (by omega) (by omega)]; omega
    have z0 : ¬ Int32.ofNat w ≤ 0 := fun q => by have := (q_le (b := 0) (by omega) (by omega)).mp q; omega
    have z1 : ¬ (1 : Int32) = 0 := by decide
    have hle := (h.1.2.2.2.2.2.2.1 i hi).2
    have K : fn5_kind x (Int32.ofNat i) = Int32.ofNat (so i + 1) := by rw [kd hcnt hn hi]; exact b_kind h hi
    have K1 : fn5_kind x (Int32.ofNat i) = 1 ↔ so i = 0 := by
      rw [K]
      have := q_eq (a := so i + 1) (b := 1) (by omega) (by omega)
      exact ⟨fun q => by have := this.mp q; omega, fun q => this.mpr (by omega)⟩
    have S1 : hm_sort (hk s c) (Int32.ofNat i).toNatClampNeg = 0 ↔ so i = 0 := by
      rw [q_cl (by omega)]
      simp only [hv_hk]
      rw [(h.1.2.2.2.2.2.2.1 i hi).1]
      exact q_eq (b := 0) (by omega) (by omega)
    have wk : wp5_kind x (Int32.ofNat i) := wp_has hcnt hn (by omega)
    have hini : am_inb (Int32.ofNat i) 240 = true := q_inb (by omega) (by omega)
    have mx0 : ∀ a : Nat, a ≤ 1000 → Int32.ofNat i + fnJ_max (Int32.ofNat a) 0 = Int32.ofNat (i + a) := fun a ha => by
      rw [show (0 : Int32) = Int32.ofNat 0 from rfl, mx (by omega) (by omega), Nat.max_eq_left (by omega), q_add]
    by_cases h0 : so i = 0
    · have hch := h.1.ch
      have hg0 : (fun a => if a < n ∧ so a = 0 then hm_sign s a else 0) i ≠ 0 := by
        show (if i < n ∧ so i = 0 then hm_sign s i else 0) ≠ 0
        rw [if_pos ⟨hi, h0⟩]
        obtain ⟨so', g1, g2, g3, g4, g5, g6, g7, g8, g9⟩ := h.1.1.2.2.1 i hi
        have e : so' = so i := (q_eq (by omega) (by omega)).mp (g2.symm.trans (h.1.2.2.2.2.2.2.1 i hi).1)
        have ok := g8 (by omega)
        intro q
        rw [q] at ok
        exact absurd ok (by decide)
      obtain ⟨P, Q, a, c', f3, f10, hc', ha, hg⟩ := p_read hch h.2.2.2.2 (show i ≤ 240 by omega) hg0
      have hz : ∀ j, i ≤ j → j < i + a → j < n ∧ so j = 0 := fun j h1 h2 => by
        have q : (if j < n ∧ so j = 0 then hm_sign s j else 0) ≠ 0 := hg j h1 h2
        by_cases hh : j < n ∧ so j = 0
        · exact hh
        · rw [if_neg hh] at q
          exact absurd rfl q
      have F0 : fn0_reads_c30 (fu + 1) y x c t (Int32.ofNat i) (Int32.ofNat w) = fn0_reads_c30 fu y x c' t (Int32.ofNat (i + a)) (Int32.ofNat a) := by
        conv => lhs; unfold fn0_reads_c30
        rw [if_neg e1, if_neg z0, if_pos (K1.mpr h0), f3]
        show fn0_reads_c30 fu y x c' t (Int32.ofNat i + fnJ_max (Int32.ofNat a) 0) (Int32.ofNat a) = _
        rw [mx0 a ha]
      by_cases ha0 : a = 0
      · subst ha0
        obtain ⟨fu, rfl⟩ : ∃ f, fu = f + 1 := ⟨fu - 1, by omega⟩
        obtain ⟨fu', rfl⟩ : ∃ f, fu' = f + 1 := ⟨fu' - 1, by omega⟩
        obtain ⟨r1, r2, r3⟩ := e_ref h.1 hi y c' t fu fu'
        have F1 : fn10_build_c23 (fu' + 1 + 1) (hk s c) (Int32.ofNat i) 1 = fn10_build_c23 (fu' + 1) (hk s c') (Int32.ofNat i) 0 := by
          conv => lhs; unfold fn10_build_c23
          rw [if_neg e2, if_neg z1, if_pos (S1.mpr h0), f10]
          show (if Int32.ofNat 0 ≤ 0 then fn10_build_c23 (fu' + 1) (hk s c') (Int32.ofNat i + Int32.ofNat 0) 0 else _) = _
          rw [if_pos (by decide), q_add]
          rfl
        refine ⟨⟨fun q => absurd q e1, fun _ => ⟨fun q => absurd q z0, fun _ => ⟨wk, fun _ => ⟨P, trivial, ?_⟩, fun q => absurd (K1.mpr h0) q⟩⟩⟩, ⟨fun q => absurd q e2, fun _ => ⟨fun q => absurd q z1, fun _ => ⟨hini, fun _ => ⟨Q, ?_⟩, fun q => absurd (S1.mpr h0) q⟩⟩⟩, ?_⟩
        · rw [f3]
          show wp0_reads_c30 (fu + 1) y x c' t (Int32.ofNat i + fnJ_max (Int32.ofNat 0) 0) (Int32.ofNat 0)
          rw [mx0 0 (by omega)]
          exact r1
        · rw [f10]
          refine ⟨fun _ => ?_, fun q => absurd (show Int32.ofNat 0 ≤ 0 by decide) q⟩
          show wp10_build_c23 (fu' + 1) (hk s c') (Int32.ofNat i + Int32.ofNat 0) 0
          rw [q_add]
          exact r2
        · rw [F0, F1]
          exact r3
      · have hrun := h.run (w := a) (c' := c') (fun j h1 h2 => (hz j h1 h2).2) (by have := (hz (i + a - 1) (by omega) (by omega)).1; omega) hc'
        obtain ⟨r1, r2, r3⟩ := ih (i + a) a fu fu' y x c' s T C O dep st k H (by omega) (by omega) (by omega) (by omega) ha hrun (fun j hj => by
          by_cases hji : j < i
          · exact h5 j hji
          · have := (hz j (by omega) hj).2; omega)
        have za : ¬ Int32.ofNat a ≤ 0 := fun q => by have := (q_le (b := 0) (by omega) (by omega)).mp q; omega
        have F1 : fn10_build_c23 (fu' + 1) (hk s c) (Int32.ofNat i) 1 = fn10_build_c23 fu' (hk s c') (Int32.ofNat (i + a)) 1 := by
          conv => lhs; unfold fn10_build_c23
          rw [if_neg e2, if_neg z1, if_pos (S1.mpr h0), f10]
          show (if Int32.ofNat a ≤ 0 then _ else fn10_build_c23 fu' (hk s c') (Int32.ofNat i + Int32.ofNat a) 1) = _
          rw [if_neg za, q_add]
        refine ⟨⟨fun q => absurd q e1, fun _ => ⟨fun q => absurd q z0, fun _ => ⟨wk, fun _ => ⟨P, trivial, ?_⟩, fun q => absurd (K1.mpr h0) q⟩⟩⟩, ⟨fun q => absurd q e2, fun _ => ⟨fun q => absurd q z1, fun _ => ⟨hini, fun _ => ⟨Q, ?_⟩, fun q => absurd (S1.mpr h0) q⟩⟩⟩, ?_⟩
        · rw [f3]
          show wp0_reads_c30 fu y x c' t (Int32.ofNat i + fnJ_max (Int32.ofNat a) 0) (Int32.ofNat a)
          rw [mx0 a ha]
          exact r1
        · rw [f10]
          refine ⟨fun q => absurd q za, fun _ => ?_⟩
          show wp10_build_c23 fu' (hk s c') (Int32.ofNat i + Int32.ofNat a) 1
          rw [q_add]
          exact r2
        · rw [F0, F1]
          exact r3
    · obtain ⟨P, Q, r⟩ := b_symbol h hi h0
      have hK : ¬ fn5_kind x (Int32.ofNat i) = 1 := fun q => h0 (K1.mp q)
      have hS : ¬ hm_sort (hk s c) (Int32.ofNat i).toNatClampNeg = 0 := fun q => h0 (S1.mp q)
      rcases r with ⟨f0, f10⟩ | ⟨y', x', c', s', T', C', O', dep', st', k', H', f0, f10, hB, hJ, hle5⟩
      · obtain ⟨fu, rfl⟩ : ∃ f, fu = f + 1 := ⟨fu - 1, by omega⟩
        obtain ⟨fu', rfl⟩ : ∃ f, fu' = f + 1 := ⟨fu' - 1, by omega⟩
        obtain ⟨r1, r2, r3⟩ := e_ref h.1 hi y c t fu fu'
        have F0 : fn0_reads_c30 (fu + 1 + 1) y x c t (Int32.ofNat i) (Int32.ofNat w) = fn0_reads_c30 (fu + 1) y x c t (Int32.ofNat i) 0 := by
          conv => lhs; unfold fn0_reads_c30
          rw [if_neg e1, if_neg z0, if_neg hK, f0]
          show fn0_reads_c30 (fu + 1) y x c t (Int32.ofNat i + fnJ_max (Int32.ofNat 0) 0) 0 = _
          rw [mx0 0 (by omega)]
          rfl
        have F1 : fn10_build_c23 (fu' + 1 + 1) (hk s c) (Int32.ofNat i) 1 = fn10_build_c23 (fu' + 1) (hk s c) (Int32.ofNat i) 0 := by
          conv => lhs; unfold fn10_build_c23
          rw [if_neg e2, if_neg z1, if_neg hS, f10]
          show (if (0 : Int32) = 0 then fn10_build_c23 (fu' + 1) (hk s c) (Int32.ofNat i + Int32.ofNat 0) 0 else _) = _
          rw [if_pos rfl, q_add]
          rfl
        refine ⟨⟨fun q => absurd q e1, fun _ => ⟨fun q => absurd q z0, fun _ => ⟨wk, fun q => absurd q hK, fun _ => ⟨P, trivial, ?_⟩⟩⟩⟩, ⟨fun q => absurd q e2, fun _ => ⟨fun q => absurd q z1, fun _ => ⟨hini, fun q => absurd q hS, fun _ => ⟨Q, ?_⟩⟩⟩⟩, ?_⟩
        · rw [f0]
          show wp0_reads_c30 (fu + 1) y x c t (Int32.ofNat i + fnJ_max (Int32.ofNat 0) 0) 0
          rw [mx0 0 (by omega)]
          exact r1
        · rw [f10]
          refine ⟨fun _ => ?_, fun q => absurd rfl q⟩
          show wp10_build_c23 (fu' + 1) (hk s c) (Int32.ofNat i + Int32.ofNat 0) 0
          rw [q_add]
          exact r2
        · rw [F0, F1]
          exact r3
      · obtain ⟨r1, r2, r3⟩ := ih (i + 1) 1 fu fu' y' x' c' s' T' C' O' dep' st' k' H' (by omega) (by omega) (by omega) (by omega) (by omega) hB (fun j hj => by
          by_cases hji : j = i
          · rw [hji]; exact hle5
          · exact h5 j (by omega))
        have F0 : fn0_reads_c30 (fu + 1) y x c t (Int32.ofNat i) (Int32.ofNat w) = fn0_reads_c30 fu y' x' c' t (Int32.ofNat (i + 1)) (Int32.ofNat 1) := by
          conv => lhs; unfold fn0_reads_c30
          rw [if_neg e1, if_neg z0, if_neg hK, f0]
          show fn0_reads_c30 fu y' x' c' t (Int32.ofNat i + fnJ_max (Int32.ofNat 1) 0) 1 = _
          rw [mx0 1 (by omega)]
          rfl
        have F1 : fn10_build_c23 (fu' + 1) (hk s c) (Int32.ofNat i) 1 = fn10_build_c23 fu' (hk s' c') (Int32.ofNat (i + 1)) 1 := by
          conv => lhs; unfold fn10_build_c23
          rw [if_neg e2, if_neg z1, if_neg hS, f10]
          show (if (1 : Int32) = 0 then _ else fn10_build_c23 fu' (hk s' c') (Int32.ofNat i + Int32.ofNat 1) 1) = _
          rw [if_neg (by decide), q_add]
        refine ⟨⟨fun q => absurd q e1, fun _ => ⟨fun q => absurd q z0, fun _ => ⟨wk, fun q => absurd q hK, fun _ => ⟨P, trivial, ?_⟩⟩⟩⟩, ⟨fun q => absurd q e2, fun _ => ⟨fun q => absurd q z1, fun _ => ⟨hini, fun q => absurd q hS, fun _ => ⟨Q, ?_⟩⟩⟩⟩, ?_⟩
        · rw [f0]
          show wp0_reads_c30 fu y' x' c' t (Int32.ofNat i + fnJ_max (Int32.ofNat 1) 0) 1
          rw [mx0 1 (by omega)]
          exact r1
        · rw [f10]
          refine ⟨fun q => absurd (show (1 : Int32) = 0 from q) (by decide), fun _ => ?_⟩
          show wp10_build_c23 fu' (hk s' c') (Int32.ofNat i + Int32.ofNat 1) 1
          rw [q_add]
          exact r2
        · rw [F0, F1]
          exact RX.trans hJ r3
