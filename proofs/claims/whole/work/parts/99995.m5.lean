/-! cutting: a brace; the loop -/
theorem at10 {s : hs} {L i : Nat} (hl : hm_length s = Int32.ofNat L) (hL : L ≤ 240) (hc : ∀ j, j < L → okc (hm_template s j)) (hi : i < 2147483648) : wp10_at s (Int32.ofNat i) ∧ fn10_at s (Int32.ofNat i) = if i < L then hm_template s i else 0 := by
  have e : hm_length s ≤ Int32.ofNat i ↔ L ≤ i := by rw [hl]; exact q_le (by omega) hi
  by_cases h : i < L
  · have ok := (hc i h).b
    refine ⟨⟨fun _ => trivial, fun _ => ⟨q_inb (by omega) (by omega), by rw [q_cl hi]; exact q_fit ok.1 ok.2⟩⟩, ?_⟩
    rw [fq10_at, if_neg (fun q => by have := e.mp q; omega), q_cl hi, if_pos h]
  · refine ⟨⟨fun _ => trivial, fun q => absurd (e.mpr (by omega)) q⟩, ?_⟩
    rw [fq10_at, if_pos (e.mpr (by omega)), if_neg h]
theorem iv4 (c : Int32) : fn4_isVariable c = if 97 ≤ c ∧ c ≤ 104 then 1 else 0 := by
  rw [fq4_isVariable]
  grind
theorem iv10 (c : Int32) : fn10_isVariable c = if 97 ≤ c ∧ c ≤ 104 then 1 else 0 := by
  rw [fq10_isVariable]
  grind
theorem iv0 {c : Int32} : ((if 97 ≤ c ∧ c ≤ 104 then (1 : Int32) else 0) = 0) ↔ ¬ (97 ≤ c ∧ c ≤ 104) := by
  by_cases h : 97 ≤ c ∧ c ≤ 104
  · rw [if_pos h]
    exact ⟨fun q => absurd q (by decide), fun q => absurd h q⟩
  · rw [if_neg h]
    exact ⟨fun _ => h, fun _ => rfl⟩
set_option maxHeartbeats 4000000 in
theorem brace {x : qt5} {s : hs} {t : qt6} {n L p : Nat} (hx : qg5_count x = Int32.ofNat n) (hs' : hm_symbols s = Int32.ofNat n) (hn : n < 240) (hT : Tx t L (hm_template s)) (hL : L ≤ 240) (hl : hm_length s = Int32.ofNat L) (hp : p < L) : ∃ (so w : Nat) (sg : Int32), so ≤ 6 ∧ (if so = 1 then 3 else 1) ≤ w ∧ p + w ≤ L ∧ (so = 0 → okc sg) ∧ (1 ≤ so → so ≤ 3 → 97 ≤ sg ∧ sg ≤ 104) ∧ wp5_cutBrace x t (Int32.ofNat p) ∧ wp10_pushOpening s (Int32.ofNat p) ∧ fn5_cutBrace x t (Int32.ofNat p) = (Int32.ofNat w, tk x n (Int32.ofNat (so + 1)) sg (Int32.ofNat p)) ∧ fn10_pushOpening s (Int32.ofNat p) = (Int32.ofNat (p + w), pu s n (Int32.ofNat so) sg (Int32.ofNat p)) := by
  have hc : ∀ j, j < L → okc (hm_template s j) := fun j hj => (hT.2 j hj).2
  have a1 := Tx.at (i := p + 1) hT hL (by omega) (by omega)
  have a2 := Tx.at (i := p + 2) hT hL (by omega) (by omega)
  have a3 := Tx.at (i := p + 3) hT hL (by omega) (by omega)
  have b1 := at10 (i := p + 1) hl hL hc (by omega)
  have b2 := at10 (i := p + 2) hl hL hc (by omega)
  have b3 := at10 (i := p + 3) hl hL hc (by omega)
  rw [← q_add p 1] at a1 b1
  rw [← q_add p 2] at a2 b2
  rw [← q_add p 3] at a3 b3
  have z1 : ∀ j, (0 : Int32) ≤ (if j < L then hm_template s j else 0) ∧ (if j < L then hm_template s j else 0) ≤ 65535 ∧ (¬ (if j < L then hm_template s j else 0) = 0 → j < L) := fun j => by
    by_cases h : j < L
    · rw [if_pos h]
      exact ⟨(hc j h).b.1, (hc j h).b.2, fun _ => h⟩
    · rw [if_neg h]
      exact ⟨by decide, by decide, fun q => absurd rfl q⟩
  obtain ⟨u1, v1, w1⟩ := z1 (p + 1)
  obtain ⟨u2, v2, w2⟩ := z1 (p + 2)
  obtain ⟨u3, v3, w3⟩ := z1 (p + 3)
  generalize (if p + 1 < L then hm_template s (p + 1) else 0) = c1 at *
  generalize (if p + 2 < L then hm_template s (p + 2) else 0) = c2 at *
  generalize (if p + 3 < L then hm_template s (p + 3) else 0) = c3 at *
  obtain ⟨wa1, ea1⟩ := a1
  obtain ⟨wa2, ea2⟩ := a2
  obtain ⟨wa3, ea3⟩ := a3
  obtain ⟨wb1, eb1⟩ := b1
  obtain ⟨wb2, eb2⟩ := b2
  obtain ⟨wb3, eb3⟩ := b3
  generalize hP : Int32.ofNat p = P at *
  have ea1 : fn6_at 240 t (P + 1) = c1 := ea1
  have ea2 : fn6_at 240 t (P + 2) = c2 := ea2
  have ea3 : fn6_at 240 t (P + 3) = c3 := ea3
  have eb1 : fn10_at s (P + 1) = c1 := eb1
  have eb2 : fn10_at s (P + 2) = c2 := eb2
  have eb3 : fn10_at s (P + 3) = c3 := eb3
  have wa1 : wp6_at 240 t (P + 1) := wa1
  have wa2 : wp6_at 240 t (P + 2) := wa2
  have wa3 : wp6_at 240 t (P + 3) := wa3
  have wb1 : wp10_at s (P + 1) := wb1
  have wb2 : wp10_at s (P + 2) := wb2
  have wb3 : wp10_at s (P + 3) := wb3
  have t1 := fun K w => tk_ok hx hn K c1 P w u1 v1
  have t2 := fun K w => tk_ok hx hn K c2 P w u2 v2
  have t0 := fun K w => tk_ok hx hn K 123 P w (by decide) (by decide)
  have p1 := fun K w => pu_ok hs' hn K c1 P w u1 v1
  have p2 := fun K w => pu_ok hs' hn K c2 P w u2 v2
  have W5 : wp5_cutBrace x t P := by
    unfold wp5_cutBrace wp5_cutBrace_c56 wp5_cutBrace_c78 wp5_cutBrace_c101 wp5_cutBrace_c153 wp4_isVariable
    simp only [ea1, ea2, ea3, wa1, wa2, wa3, fun K w => (t1 K w).1, fun K w => (t2 K w).1, fun K w => (t0 K w).1, true_and, and_true, implies_true, and_self]
  have W10 : wp10_pushOpening s P := by
    unfold wp10_pushOpening wp10_pushOpening_c51 wp10_pushOpening_c63 wp10_pushOpening_c100 wp10_pushOpening_c113 wp10_pushOpening_c125 wp10_pushOpening_c149 wp10_pushOpening_c156 wp10_isVariable
    simp only [eb1, eb2, eb3, wb1, wb2, wb3, fun K w => (p1 K w).1, fun K w => (p2 K w).1, true_and, and_true, implies_true, and_self]
  have E5 : fn5_cutBrace x t P = if c1 = 123 then (2, tk x n 1 123 P) else if c2 = 125 then (if 97 ≤ c1 ∧ c1 ≤ 104 then (3, tk x n 2 c1 P) else if c1 = 58 then (3, tk x n 5 c1 P) else if c1 = 47 then (3, tk x n 6 c1 P) else (1, tk x n 7 c1 P)) else if 97 ≤ c2 ∧ c2 ≤ 104 then (if c3 = 125 then (if c1 = 63 then (4, tk x n 3 c2 P) else if c1 = 42 then (4, tk x n 4 c2 P) else (1, tk x n 7 c1 P)) else (1, tk x n 7 c1 P)) else (1, tk x n 7 c1 P) := by
    rw [fq5_cutBrace]
    unfold fn5_cutBrace_c56 fn5_cutBrace_c78 fn5_cutBrace_c101 fn5_cutBrace_c153
    simp only [ea1, ea2, ea3, fun K w => (t1 K w).2, fun K w => (t2 K w).2, fun K w => (t0 K w).2, iv4, iv0]
    clear W5 W10 t1 t2 t0 p1 p2 w1 w2 w3 hc hT
    grind
  have E10 : fn10_pushOpening s P = if c1 = 123 then (P + 2, pu s n 0 c1 P) else if c2 = 125 ∧ 97 ≤ c1 ∧ c1 ≤ 104 then (P + 3, pu s n 1 c1 P) else if (c1 = 63 ∨ c1 = 42) ∧ (97 ≤ c2 ∧ c2 ≤ 104) ∧ c3 = 125 then (P + 4, pu s n (if c1 = 63 then 2 else 3) c2 P) else if (c1 = 58 ∨ c1 = 47) ∧ c2 = 125 then (P + 3, pu s n (if c1 = 58 then 4 else 5) c1 P) else (P + 1, pu s n 6 c1 P) := by
    rw [fq10_pushOpening]
    unfold fn10_pushOpening_c51 fn10_pushOpening_c63 fn10_pushOpening_c100 fn10_pushOpening_c113 fn10_pushOpening_c125 fn10_pushOpening_c149 fn10_pushOpening_c156
    simp only [eb1, eb2, eb3, fun K w => (p1 K w).2, fun K w => (p2 K w).2, iv10, iv0]
    clear W5 W10 t1 t2 t0 p1 p2 w1 w2 w3 hc hT E5
    grind
  clear t1 t2 t0 p1 p2 wa1 wa2 wa3 wb1 wb2 wb3 ea1 ea2 ea3 eb1 eb2 eb3
  rw [E5, E10]
  have hP2 : ∀ w, Int32.ofNat (p + w) = P + Int32.ofNat w := fun w => by rw [← hP, q_add]
  by_cases h1 : c1 = 123
  · subst h1
    refine ⟨0, 2, 123, by omega, by decide, by have := w1 (by decide); omega, fun _ => by decide, fun q => by omega, W5, W10, ?_, ?_⟩
    · rw [if_pos rfl]; rfl
    · rw [if_pos rfl, hP2]; rfl
  by_cases h2 : c2 = 125
  · have q2 := w2 (by rw [h2]; decide)
    by_cases h3 : 97 ≤ c1 ∧ c1 ≤ 104
    · refine ⟨1, 3, c1, by omega, by decide, by omega, fun q => by omega, fun _ _ => h3, W5, W10, ?_, ?_⟩
      · rw [if_neg h1, if_pos h2, if_pos h3]; rfl
      · rw [if_neg h1, if_pos ⟨h2, h3⟩, hP2]; rfl
    have h5 : ¬ ((c1 = 63 ∨ c1 = 42) ∧ (97 ≤ c2 ∧ c2 ≤ 104) ∧ c3 = 125) := fun q => by rw [h2] at q; exact absurd q.2.1.2 (by decide)
    have h6 : ¬ (c2 = 125 ∧ 97 ≤ c1 ∧ c1 ≤ 104) := fun q => h3 q.2
    by_cases h7 : c1 = 58
    · refine ⟨4, 3, c1, by omega, by decide, by omega, fun q => by omega, fun _ q => by omega, W5, W10, ?_, ?_⟩
      · rw [if_neg h1, if_pos h2, if_neg h3, if_pos h7]; rfl
      · rw [if_neg h1, if_neg h6, if_neg h5, if_pos ⟨Or.inl h7, h2⟩, hP2, if_pos h7]; rfl
    by_cases h8 : c1 = 47
    · refine ⟨5, 3, c1, by omega, by decide, by omega, fun q => by omega, fun _ q => by omega, W5, W10, ?_, ?_⟩
      · rw [if_neg h1, if_pos h2, if_neg h3, if_neg h7, if_pos h8]; rfl
      · rw [if_neg h1, if_neg h6, if_neg h5, if_pos ⟨Or.inr h8, h2⟩, hP2, if_neg h7]; rfl
    refine ⟨6, 1, c1, by omega, by decide, by omega, fun q => by omega, fun _ q => by omega, W5, W10, ?_, ?_⟩
    · rw [if_neg h1, if_pos h2, if_neg h3, if_neg h7, if_neg h8]; rfl
    · rw [if_neg h1, if_neg h6, if_neg h5, if_neg (fun q => by rcases q.1 with q | q; exact h7 q; exact h8 q), hP2]; rfl
  have h6 : ¬ (c2 = 125 ∧ 97 ≤ c1 ∧ c1 ≤ 104) := fun q => h2 q.1
  have h9 : ¬ ((c1 = 58 ∨ c1 = 47) ∧ c2 = 125) := fun q => h2 q.2
  by_cases h10 : (97 ≤ c2 ∧ c2 ≤ 104) ∧ c3 = 125
  · have q3 := w3 (by rw [h10.2]; decide)
    by_cases h11 : c1 = 63
    · refine ⟨2, 4, c2, by omega, by decide, by omega, fun q => by omega, fun _ _ => h10.1, W5, W10, ?_, ?_⟩
      · rw [if_neg h1, if_neg h2, if_pos h10.1, if_pos h10.2, if_pos h11]; rfl
      · rw [if_neg h1, if_neg h6, if_pos ⟨Or.inl h11, h10⟩, hP2, if_pos h11]; rfl
    by_cases h12 : c1 = 42
    · refine ⟨3, 4, c2, by omega, by decide, by omega, fun q => by omega, fun _ _ => h10.1, W5, W10, ?_, ?_⟩
      · rw [if_neg h1, if_neg h2, if_pos h10.1, if_pos h10.2, if_neg h11, if_pos h12]; rfl
      · rw [if_neg h1, if_neg h6, if_pos ⟨Or.inr h12, h10⟩, hP2, if_neg h11]; rfl
    refine ⟨6, 1, c1, by omega, by decide, by omega, fun q => by omega, fun _ q => by omega, W5, W10, ?_, ?_⟩
    · rw [if_neg h1, if_neg h2, if_pos h10.1, if_pos h10.2, if_neg h11, if_neg h12]; rfl
    · rw [if_neg h1, if_neg h6, if_neg (fun q => by rcases q.1 with q | q; exact h11 q; exact h12 q), if_neg h9, hP2]; rfl
  refine ⟨6, 1, c1, by omega, by decide, by omega, fun q => by omega, fun _ q => by omega, W5, W10, ?_, ?_⟩
  · rw [if_neg h1, if_neg h2]
    by_cases h13 : 97 ≤ c2 ∧ c2 ≤ 104
    · rw [if_pos h13, if_neg (fun q => h10 ⟨h13, q⟩)]; rfl
    · rw [if_neg h13]; rfl
  · rw [if_neg h1, if_neg h6, if_neg (fun q => h10 q.2), if_neg h9, hP2]; rfl
