/-! what a hole writes: the reference -/
theorem p1B (s : hs) (c : Int32) : fn10_put s c = pB s [c] := by rw [pB_cons, pB_nil]
theorem plainB (s : hs) (c : Int32) : (OS s → wp10_putPlain s c) ∧ fn10_putPlain s c = pB s (vmk c) := by
  constructor
  · intro o
    exact ⟨fun _ => wput5 o _ _ _ _ _, fun _ => ⟨fun _ => wput5 o _ _ _ _ _, fun _ => ⟨fun _ => wput5 o _ _ _ _ _, fun _ => ⟨fun _ => wput5 o _ _ _ _ _, fun _ => ⟨fun _ => wput5 o _ _ _ _ _, fun _ => o.w _⟩⟩⟩⟩⟩
  · rw [fq10_putPlain, put5_eq s (by decide), put4_eq, put4_eq, put5_eq s (by decide), put5_eq s (by decide)]
    unfold vmk
    by_cases h1 : c = 38
    · rw [if_pos h1, if_pos h1]
    rw [if_neg h1, if_neg h1]
    by_cases h2 : c = 60
    · rw [if_pos h2, if_pos h2]
    rw [if_neg h2, if_neg h2]
    by_cases h3 : c = 62
    · rw [if_pos h3, if_pos h3]
    rw [if_neg h3, if_neg h3]
    by_cases h4 : c = 34
    · rw [if_pos h4, if_pos h4]
    rw [if_neg h4, if_neg h4]
    by_cases h5 : c = 39
    · rw [if_pos h5, if_pos h5]
    rw [if_neg h5, if_neg h5, p1B]
theorem siu (c : Int32) : wp10_staysInUrl c ∧ (fn10_staysInUrl c = 0 ↔ ¬ st2 c) := by
  constructor
  · unfold wp10_staysInUrl wp10_staysInUrl_c72
    simp only [implies_true, and_self]
  · rw [fq10_staysInUrl]
    unfold fn10_staysInUrl_c72 st2
    simp only [List.mem_cons, List.not_mem_nil, or_false]
    by_cases h : c = 47 ∨ c = 58 ∨ c = 64 ∨ c = 33 ∨ c = 36 ∨ c = 42 ∨ c = 43 ∨ c = 44 ∨ c = 59 ∨ c = 61 ∨ c = 63 ∨ c = 35
    · rcases h with rfl | rfl | rfl | rfl | rfl | rfl | rfl | rfl | rfl | rfl | rfl | rfl
      all_goals decide
    · simp only [not_or] at h
      obtain ⟨h1, h2, h3, h4, h5, h6, h7, h8, h9, h10, h11, h12⟩ := h
      simp only [h1, h2, h3, h4, h5, h6, h7, h8, h9, h10, h11, h12, if_false, or_self, not_false_eq_true]
theorem sic10 (c : Int32) : wp10_staysInCode c ∧ (fn10_staysInCode c = 0 ↔ ¬ st3 c) := by
  constructor
  · unfold wp10_staysInCode wp10_staysInCode_c37
    simp only [ww10, implies_true, and_self]
  · rw [fq10_staysInCode]
    have hw := iw10 c
    unfold fn10_staysInCode_c37
    by_cases h1 : wd c
    · rw [if_neg (fun w => hw.mp w h1)]
      exact ⟨fun q => absurd q (by decide), fun q => absurd (Or.inl h1) q⟩
    rw [if_pos (hw.mpr h1)]
    unfold st3
    simp only [List.mem_cons, List.not_mem_nil, or_false]
    by_cases h : c = 32 ∨ c = 46 ∨ c = 44 ∨ c = 45 ∨ c = 95
    · have h' : ¬ ¬ (wd c ∨ c = 32 ∨ c = 46 ∨ c = 44 ∨ c = 45 ∨ c = 95) := fun q => q (Or.inr h)
      refine ⟨fun q => ?_, fun q => absurd q h'⟩
      rcases h with k | k | k | k | k
      all_goals
        rw [k] at q
        exact absurd q (by decide)
    · simp only [not_or] at h
      obtain ⟨h2, h3, h4, h5, h6⟩ := h
      simp only [h1, h2, h3, h4, h5, h6, if_false, or_self, not_false_eq_true]
theorem urlB {c : Int32} (ok : okc c) {p : Int32} {b : Bool} (hp : (2 : Int32) ≤ p ↔ b = false) (s : hs) : (OS s → wp10_putUrl s c p) ∧ fn10_putUrl s c p = pB s (vur b c) := by
  obtain ⟨w2, e2⟩ := siu c
  have hw := iw10 c
  constructor
  · intro o
    have A : wp10_putUrl_c43 s c p := ⟨fun w => absurd w (by decide), fun _ => o.w _⟩
    have B : wp10_putUrl_c89 s c := ⟨o.w _, (hexB ok _).1 (o.p _)⟩
    have D : wp10_putUrl_c47 s c p := ⟨fun _ => ⟨fun _ => ⟨fun _ => B, fun _ => wput5 o _ _ _ _ _⟩, fun _ => B⟩, fun w => absurd rfl w⟩
    exact ⟨ww10 c, fun _ => ⟨fun _ => A, fun _ => ⟨fun _ => A, fun _ => ⟨fun _ => A, fun _ => ⟨fun _ => A, fun _ => ⟨fun _ => D, fun _ => ⟨w2, fun _ => D, fun _ => A⟩⟩⟩⟩⟩⟩, fun _ => A⟩
  · have eA : fn10_putUrl_c43 s c p = pB s [c] := by
      unfold fn10_putUrl_c43 fn10_putUrl_c48
      rw [if_neg (by decide), p1B]
    have eB : fn10_putUrl_c89 s c = pB s (37 :: hxd c) := by
      unfold fn10_putUrl_c89
      rw [(hexB ok _).2, pB_cons]
    have eD : fn10_putUrl_c47 s c p = if c = 38 then (if (2 : Int32) ≤ p then pB s (37 :: hxd c) else pB s [38, 97, 109, 112, 59]) else pB s (37 :: hxd c) := by
      unfold fn10_putUrl_c47 fn10_putUrl_c48
      rw [if_pos rfl, eB, put5_eq s (by decide)]
    rw [fq10_putUrl, eA, eD]
    unfold vur
    by_cases h1 : wd c
    · rw [if_neg (fun w => hw.mp w h1), if_pos (show st1 c from Or.inl h1)]
    rw [if_pos (hw.mpr h1)]
    by_cases h2 : c ∈ ([45, 46, 95, 126] : List Int32)
    · rw [if_pos (show st1 c from Or.inr h2)]
      simp only [List.mem_cons, List.not_mem_nil, or_false] at h2
      rcases h2 with q | q | q | q
      · rw [if_pos q]
      · rw [if_neg (by rw [q]; decide), if_pos q]
      · rw [if_neg (by rw [q]; decide), if_neg (by rw [q]; decide), if_pos q]
      · rw [if_neg (by rw [q]; decide), if_neg (by rw [q]; decide), if_neg (by rw [q]; decide), if_pos q]
    rw [if_neg (show ¬ st1 c from fun w => by rcases w with w | w; exact h1 w; exact h2 w)]
    simp only [List.mem_cons, List.not_mem_nil, or_false] at h2
    rw [if_neg (fun q => h2 (Or.inl q)), if_neg (fun q => h2 (Or.inr (Or.inl q))), if_neg (fun q => h2 (Or.inr (Or.inr (Or.inl q)))), if_neg (fun q => h2 (Or.inr (Or.inr (Or.inr q))))]
    cases b with
    | false =>
      have h3 := hp.mpr rfl
      rw [if_pos h3, if_neg (show ¬ (false = true ∧ st2 c) from fun w => absurd w.1 (by decide)), if_neg (show ¬ (false = true ∧ c = 38) from fun w => absurd w.1 (by decide)), if_pos h3]
      exact ite_self _
    | true =>
      have h3 : ¬ (2 : Int32) ≤ p := fun w => absurd (hp.mp w) (by decide)
      rw [if_neg h3]
      by_cases h4 : st2 c
      · rw [if_neg (fun w => e2.mp w h4), if_pos (show true = true ∧ st2 c from ⟨rfl, h4⟩)]
      rw [if_pos (e2.mpr h4), if_neg (show ¬ (true = true ∧ st2 c) from fun w => h4 w.2), if_neg h3]
      by_cases h5 : c = 38
      · rw [if_pos h5, if_pos (show true = true ∧ c = 38 from ⟨rfl, h5⟩)]
      · rw [if_neg h5, if_neg (show ¬ (true = true ∧ c = 38) from fun w => h5 w.2)]
theorem codeB {c : Int32} (ok : okc c) (s : hs) : ((OS s → wp10_putCode s c 0) ∧ fn10_putCode s c 0 = pB s (vcs false c)) ∧ ((OS s → wp10_putCode s c 1) ∧ fn10_putCode s c 1 = pB s (vcs true c)) := by
  obtain ⟨w, e⟩ := sic10 c
  refine ⟨⟨fun o => ?_, ?_⟩, ⟨fun o => ?_, ?_⟩⟩
  · exact ⟨w, fun _ => ⟨o.w _, fun _ => ⟨(o.p _).w _, (hexB ok _).1 ((o.p _).p _), fun _ => trivial, fun q => absurd rfl q⟩, fun q => absurd rfl q⟩, fun _ => o.w _⟩
  · rw [fq10_putCode]
    unfold vcs fn10_putCode_c19 fn10_putCode_c29 fn10_putCode_c34
    by_cases h1 : st3 c
    · rw [if_neg (fun q => e.mp q h1), if_pos h1, p1B]
    · rw [if_pos (e.mpr h1), if_neg h1, if_pos rfl, if_pos rfl, if_neg (by decide), (hexB ok _).2]
      simp only [pB_cons]
  · refine ⟨w, fun _ => ⟨o.w _, fun q => absurd q (by decide), fun _ => ⟨(hexB ok _).1 (o.p _), fun q => absurd q (by decide), fun _ => ?_⟩⟩, fun _ => o.w _⟩
    rw [(hexB ok _).2]
    exact ((o.p _).pB _).w _
  · rw [fq10_putCode]
    unfold vcs fn10_putCode_c19 fn10_putCode_c29 fn10_putCode_c34
    by_cases h1 : st3 c
    · rw [if_neg (fun q => e.mp q h1), if_pos h1, p1B]
    · rw [if_pos (e.mpr h1), if_neg h1, if_neg (by decide), if_neg (by decide), if_pos rfl, (hexB ok _).2]
      simp only [pB_cons, pB_app, pB_nil]
def vqu (k : Int32) : List Int32 := if k = 24 then [38, 35, 51, 52, 59] else if k = 8 then [34] else []
theorem quoteB (s : hs) (k : Int32) : (OS s → wp10_putQuote s k) ∧ fn10_putQuote s k = pB s (vqu k) := by
  constructor
  · intro o
    exact ⟨fun _ => (plainB s 34).1 o, fun _ => ⟨fun _ => o.w _, fun _ => trivial⟩⟩
  · rw [fq10_putQuote, (plainB s 34).2]
    unfold vqu
    by_cases h1 : k = 24
    · rw [if_pos h1, if_pos h1]
      rfl
    rw [if_neg h1, if_neg h1]
    by_cases h2 : k = 8
    · rw [if_pos h2, if_pos h2, p1B]
    · rw [if_neg h2, if_neg h2, pB_nil]
/-- one character of an item -/
def STP (s : hs) (q : Int32) (n : Nat) (g : Nat → Int32) (k : Int32) (f : Int32 → List Int32) : Prop := ∀ (s' : hs) (fu i : Nat), i < n → hm_items s' = hm_items s → fn10_putItem_c85 (fu + 1) s' k q (Int32.ofNat n) (Int32.ofNat i) = fn10_putItem_c85 fu (pB s' (f (g i))) k q (Int32.ofNat n) (Int32.ofNat (i + 1)) ∧ (OS s' → wp10_putItem_c85 fu (pB s' (f (g i))) k q (Int32.ofNat n) (Int32.ofNat (i + 1)) → wp10_putItem_c85 (fu + 1) s' k q (Int32.ofNat n) (Int32.ofNat i))
theorem IT.pos {m : qt2} {s : hs} {q : Int32} {n : Nat} {g : Nat → Int32} (h : IT m s q n g) {i : Nat} (hi : i < n) : 0 ≤ q := by
  rcases h.2.2 with ⟨-, q0⟩ | ⟨a, ha, rfl, -⟩
  · omega
  · exact Int32.not_lt.mp (q_pos (by omega))
theorem st_plain {m : qt2} {s : hs} {q : Int32} {n : Nat} {g : Nat → Int32} (h : IT m s q n g) {k : Int32} (hk' : ¬ 2 ≤ k) : STP s q n g k vmk := by
  intro s' fu i hi hs'
  have hn := h.1
  obtain ⟨i1, i2, i3, i4⟩ := h.rf (h.pos hi)
  have e : ¬ Int32.ofNat n ≤ Int32.ofNat i := by rw [q_le (by omega) (by omega)]; omega
  have ei : hm_items s' (40 * q + Int32.ofNat i).toNatClampNeg = g i := by rw [hs']; exact (i3 i hi).2
  obtain ⟨w1, e1⟩ := plainB s' (g i)
  constructor
  · conv => lhs; unfold fn10_putItem_c85
    rw [if_neg e, if_neg hk', ei, q_1, e1]
  · intro o r
    refine ⟨fun w => absurd w e, fun _ => ⟨(i3 i hi).1, fun w => absurd w hk', fun _ => ?_⟩⟩
    rw [ei, q_1, e1]
    exact ⟨w1 o, r⟩
theorem st_url {m : qt2} {s : hs} {q : Int32} {n : Nat} {g : Nat → Int32} (h : IT m s q n g) {k : Int32} {b : Bool} (hk' : 2 ≤ k) (hk2 : ¬ 8 ≤ k) (hb : (2 : Int32) ≤ k - 2 ↔ b = false) : STP s q n g k (vur b) := by
  intro s' fu i hi hs'
  have hn := h.1
  obtain ⟨i1, i2, i3, i4⟩ := h.rf (h.pos hi)
  have e : ¬ Int32.ofNat n ≤ Int32.ofNat i := by rw [q_le (by omega) (by omega)]; omega
  have ei : hm_items s' (40 * q + Int32.ofNat i).toNatClampNeg = g i := by rw [hs']; exact (i3 i hi).2
  obtain ⟨w1, e1⟩ := urlB (h.2.1 i hi) hb s'
  constructor
  · conv => lhs; unfold fn10_putItem_c85
    rw [if_neg e, if_pos hk', if_neg hk2, ei, q_1, e1]
  · intro o r
    refine ⟨fun w => absurd w e, fun _ => ⟨(i3 i hi).1, fun _ => ⟨fun w => absurd w hk2, fun _ => ?_⟩, fun w => absurd hk' w⟩⟩
    rw [ei, q_1, e1]
    exact ⟨w1 o, r⟩
theorem st_bare {m : qt2} {s : hs} {q : Int32} {n : Nat} {g : Nat → Int32} (h : IT m s q n g) {k : Int32} (hk' : 2 ≤ k) (hk2 : 8 ≤ k) (hk3 : k - k / 16 * 16 = 12) : STP s q n g k vid := by
  intro s' fu i hi hs'
  have hn := h.1
  obtain ⟨i1, i2, i3, i4⟩ := h.rf (h.pos hi)
  have e : ¬ Int32.ofNat n ≤ Int32.ofNat i := by rw [q_le (by omega) (by omega)]; omega
  have ei : hm_items s' (40 * q + Int32.ofNat i).toNatClampNeg = g i := by rw [hs']; exact (i3 i hi).2
  have e1 : fn10_put s' (g i) = pB s' (vid (g i)) := p1B s' (g i)
  constructor
  · conv => lhs; unfold fn10_putItem_c85
    rw [if_neg e, if_pos hk', if_pos hk2, if_pos hk3, ei, q_1, e1]
  · intro o r
    refine ⟨fun w => absurd w e, fun _ => ⟨(i3 i hi).1, fun _ => ⟨fun _ => ⟨fun _ => ?_, fun w => absurd hk3 w⟩, fun w => absurd hk2 w⟩, fun w => absurd hk' w⟩⟩
    rw [ei, q_1, e1]
    exact ⟨o.w _, r⟩
theorem st_c0 {m : qt2} {s : hs} {q : Int32} {n : Nat} {g : Nat → Int32} (h : IT m s q n g) {k : Int32} (hk' : 2 ≤ k) (hk2 : 8 ≤ k) (hk3 : ¬ k - k / 16 * 16 = 12) (hk4 : k - k / 16 * 16 ≤ 12) : STP s q n g k (vcs false) := by
  intro s' fu i hi hs'
  have hn := h.1
  obtain ⟨i1, i2, i3, i4⟩ := h.rf (h.pos hi)
  have e : ¬ Int32.ofNat n ≤ Int32.ofNat i := by rw [q_le (by omega) (by omega)]; omega
  have ei : hm_items s' (40 * q + Int32.ofNat i).toNatClampNeg = g i := by rw [hs']; exact (i3 i hi).2
  obtain ⟨w1, e1⟩ := (codeB (h.2.1 i hi) s').1
  constructor
  · conv => lhs; unfold fn10_putItem_c85
    rw [if_neg e, if_pos hk', if_pos hk2, if_neg hk3, if_pos hk4, ei, q_1, e1]
  · intro o r
    refine ⟨fun w => absurd w e, fun _ => ⟨(i3 i hi).1, fun _ => ⟨fun _ => ⟨fun w => absurd w hk3, fun _ => ⟨fun _ => ?_, fun w => absurd hk4 w⟩⟩, fun w => absurd hk2 w⟩, fun w => absurd hk' w⟩⟩
    rw [ei, q_1, e1]
    exact ⟨w1 o, r⟩
theorem st_c1 {m : qt2} {s : hs} {q : Int32} {n : Nat} {g : Nat → Int32} (h : IT m s q n g) {k : Int32} (hk' : 2 ≤ k) (hk2 : 8 ≤ k) (hk3 : ¬ k - k / 16 * 16 = 12) (hk4 : ¬ k - k / 16 * 16 ≤ 12) : STP s q n g k (vcs true) := by
  intro s' fu i hi hs'
  have hn := h.1
  obtain ⟨i1, i2, i3, i4⟩ := h.rf (h.pos hi)
  have e : ¬ Int32.ofNat n ≤ Int32.ofNat i := by rw [q_le (by omega) (by omega)]; omega
  have ei : hm_items s' (40 * q + Int32.ofNat i).toNatClampNeg = g i := by rw [hs']; exact (i3 i hi).2
  obtain ⟨w1, e1⟩ := (codeB (h.2.1 i hi) s').2
  constructor
  · conv => lhs; unfold fn10_putItem_c85
    rw [if_neg e, if_pos hk', if_pos hk2, if_neg hk3, if_neg hk4, ei, q_1, e1]
  · intro o r
    refine ⟨fun w => absurd w e, fun _ => ⟨(i3 i hi).1, fun _ => ⟨fun _ => ⟨fun w => absurd w hk3, fun _ => ⟨fun w => absurd w hk4, fun _ => ?_⟩⟩, fun w => absurd hk2 w⟩, fun w => absurd hk' w⟩⟩
    rw [ei, q_1, e1]
    exact ⟨w1 o, r⟩
theorem l_c85 {s : hs} {q : Int32} {n : Nat} {g : Nat → Int32} {k : Int32} {f : Int32 → List Int32} (hn : n ≤ 40) (hS : STP s q n g k f) : ∀ (d i fu : Nat) (s' : hs), i + d = n → d < fu → hm_items s' = hm_items s → (OS s' → wp10_putItem_c85 fu s' k q (Int32.ofNat n) (Int32.ofNat i)) ∧ fn10_putItem_c85 fu s' k q (Int32.ofNat n) (Int32.ofNat i) = pB s' (vfl f g i d ++ vqu k) := by
  intro d
  induction d with
  | zero =>
    intro i fu s' hi hf hs'
    obtain ⟨fu, rfl⟩ : ∃ f, fu = f + 1 := ⟨fu - 1, by omega⟩
    have e : Int32.ofNat n ≤ Int32.ofNat i := (q_le (by omega) (by omega)).mpr (by omega)
    refine ⟨fun o => ⟨fun _ => (quoteB s' k).1 o, fun w => absurd e w⟩, ?_⟩
    unfold fn10_putItem_c85
    rw [if_pos e, vfl, List.nil_append, (quoteB s' k).2]
  | succ d ih =>
    intro i fu s' hi hf hs'
    obtain ⟨fu, rfl⟩ : ∃ f, fu = f + 1 := ⟨fu - 1, by omega⟩
    obtain ⟨e1, e2⟩ := hS s' fu i (by omega) hs'
    obtain ⟨r1, r2⟩ := ih (i + 1) fu (pB s' (f (g i))) (by omega) (by omega) (by rw [(pB_KO _ _).items.1]; exact hs')
    refine ⟨fun o => e2 o (r1 (o.pB _)), ?_⟩
    rw [e1, r2, vfl, List.append_assoc, pB_app (f (g i))]
theorem c77B {s : hs} {q : Int32} {n : Nat} {g : Nat → Int32} {k : Int32} {f : Int32 → List Int32} (hn : n ≤ 40) (hS : STP s q n g k f) : (OS s → wp10_putItem_c77 s k q (Int32.ofNat n)) ∧ fn10_putItem_c77 s k q (Int32.ofNat n) = pB s (vqu k ++ (vfl f g 0 n ++ vqu k)) := by
  obtain ⟨w1, e1⟩ := quoteB s k
  obtain ⟨r1, r2⟩ := l_c85 hn hS n 0 hg_fu (pB s (vqu k)) (by omega) (by rw [hg_fu_eq]; omega) (pB_KO _ _).items.1
  constructor
  · intro o
    refine ⟨w1 o, ?_⟩
    rw [e1]
    exact r1 (o.pB _)
  · rw [fn10_putItem_c77, e1, pB_app]
    exact r2
theorem v_ref {m : qt2} {s : hs} {q : Int32} {n : Nat} {g : Nat → Int32} (h : IT m s q n g) (hz : Jz s) {k : Int32} (hk' : VC k) : (OS s → wp10_putItem s k q) ∧ fn10_putItem s k q = pB s (vls k g n) := by
  have hn := h.1
  suffices hh : (OS s → wp10_putItem_c14 s k q (Int32.ofNat n)) ∧ fn10_putItem_c14 s k q (Int32.ofNat n) = pB s (vls k g n) by
    by_cases hq : 0 ≤ q
    · obtain ⟨i1, i2, i3, i4⟩ := h.rf hq
      refine ⟨fun o => ⟨fun _ => ⟨i1, by rw [i2]; exact hh.1 o⟩, fun w => absurd hq w⟩, ?_⟩
      rw [fq10_putItem, if_pos hq, i2]
      exact hh.2
    · have h0 : n = 0 := by
        rcases h.2.2 with ⟨-, q0⟩ | ⟨a, ha, rfl, -⟩
        · exact q0
        · exact absurd (Int32.not_lt.mp (q_pos (by omega))) hq
      subst h0
      refine ⟨fun o => ⟨fun w => absurd w hq, fun _ => hh.1 o⟩, ?_⟩
      rw [fq10_putItem, if_neg hq]
      exact hh.2
  obtain ⟨wr, er⟩ := sw10 h
  simp only [VC, List.mem_cons, List.not_mem_nil, or_false] at hk'
  rcases hk' with rfl | rfl | rfl | rfl | rfl | rfl | rfl | rfl | rfl | rfl | rfl | rfl | rfl | rfl | rfl | rfl | rfl
  · obtain ⟨w7, e7⟩ := c77B (k := 0) hn (st_plain h (by decide))
    rw [vqu, if_neg (by decide), if_neg (by decide), List.nil_append, List.append_nil] at e7
    refine ⟨fun o => ⟨fun w => absurd w (by decide), fun _ => ⟨fun w => absurd w (by decide), fun _ => w7 o⟩⟩, ?_⟩
    rw [fn10_putItem_c14, if_neg (by decide), fn10_putItem_c46, if_neg (by decide), e7, vls, if_pos (by decide)]
  · obtain ⟨w7, e7⟩ := c77B (k := 1) hn (st_plain h (by decide))
    rw [vqu, if_neg (by decide), if_neg (by decide), List.nil_append, List.append_nil] at e7
    refine ⟨fun o => ⟨fun w => absurd w (by decide), fun _ => ⟨fun w => absurd w (by decide), fun _ => w7 o⟩⟩, ?_⟩
    rw [fn10_putItem_c14, if_neg (by decide), fn10_putItem_c46, if_neg (by decide), e7, vls, if_pos (by decide)]
  · obtain ⟨w7, e7⟩ := c77B (k := 2) hn (st_url h (b := true) (by decide) (by decide) (by decide))
    rw [vqu, if_neg (by decide), if_neg (by decide), List.nil_append, List.append_nil] at e7
    have c46 : fn10_putItem_c46 s 2 q (Int32.ofNat n) = pB s (vfl (vur true) g 0 n) := by rw [fn10_putItem_c46, if_neg (by decide), e7]
    by_cases hq : q < 0
    · have h0 : n = 0 := by
        rcases h.2.2 with ⟨-, q0⟩ | ⟨a, ha, rfl, -⟩
        · exact q0
        · exact absurd hq (q_pos (by omega))
      have hf : ¬ foff g n 0 := by rw [h0]; exact foff_z
      refine ⟨fun o => ⟨fun _ => ⟨fun _ => ⟨fun w => absurd w (by decide), fun _ => w7 o⟩, fun w => absurd hq w⟩, fun w => absurd (by decide) w⟩, ?_⟩
      rw [fn10_putItem_c14, if_pos (by decide), if_pos hq, c46, vls, if_neg (by decide), if_pos (by decide), vpr_f hf]
    · obtain ⟨r1, r2⟩ := l_off h (Int32.not_lt.mp hq) hz n 0 hg_fu (by omega) (by rw [hg_fu_eq]; omega)
      have eo : fn10_isOff s q = 0 ↔ ¬ foff g n 0 := by rw [fq10_isOff]; exact r2
      refine ⟨fun o => ⟨fun _ => ⟨fun w => absurd w hq, fun _ => ⟨r1, fun _ => ⟨fun w => absurd w (by decide), fun _ => w7 o⟩, fun _ => wput5 o _ _ _ _ _⟩⟩, fun w => absurd (by decide) w⟩, ?_⟩
      rw [fn10_putItem_c14, if_pos (by decide), if_neg hq]
      by_cases hf : foff g n 0
      · rw [if_neg (fun w => eo.mp w hf), put4_eq, vls, if_neg (by decide), if_pos (by decide), vpr_t hf]
      · rw [if_pos (eo.mpr hf), c46, vls, if_neg (by decide), if_pos (by decide), vpr_f hf]
  · obtain ⟨w7, e7⟩ := c77B (k := 3) hn (st_url h (b := true) (by decide) (by decide) (by decide))
    rw [vqu, if_neg (by decide), if_neg (by decide), List.nil_append, List.append_nil] at e7
    refine ⟨fun o => ⟨fun w => absurd w (by decide), fun _ => ⟨fun w => absurd w (by decide), fun _ => w7 o⟩⟩, ?_⟩
    rw [fn10_putItem_c14, if_neg (by decide), fn10_putItem_c46, if_neg (by decide), e7, vls, if_neg (by decide), if_neg (by decide), if_pos (by decide)]
  · obtain ⟨w7, e7⟩ := c77B (k := 4) hn (st_url h (b := false) (by decide) (by decide) (by decide))
    rw [vqu, if_neg (by decide), if_neg (by decide), List.nil_append, List.append_nil] at e7
    refine ⟨fun o => ⟨fun w => absurd w (by decide), fun _ => ⟨fun w => absurd w (by decide), fun _ => w7 o⟩⟩, ?_⟩
    rw [fn10_putItem_c14, if_neg (by decide), fn10_putItem_c46, if_neg (by decide), e7, vls, if_neg (by decide), if_neg (by decide), if_neg (by decide), if_pos (by decide)]
  · obtain ⟨w7, e7⟩ := c77B (k := 8) hn (st_c0 h (by decide) (by decide) (by decide) (by decide))
    rw [vqu, if_neg (by decide), if_pos (by decide)] at e7
    refine ⟨fun o => ⟨fun w => absurd w (by decide), fun _ => ⟨fun w => absurd w (by decide), fun _ => w7 o⟩⟩, ?_⟩
    rw [fn10_putItem_c14, if_neg (by decide), fn10_putItem_c46, if_neg (by decide), e7, vls, if_neg (by decide), if_neg (by decide), if_neg (by decide), if_neg (by decide), if_pos (by decide)]
  · obtain ⟨w7, e7⟩ := c77B (k := 9) hn (st_c0 h (by decide) (by decide) (by decide) (by decide))
    rw [vqu, if_neg (by decide), if_neg (by decide), List.nil_append, List.append_nil] at e7
    refine ⟨fun o => ⟨fun w => absurd w (by decide), fun _ => ⟨fun w => absurd w (by decide), fun _ => w7 o⟩⟩, ?_⟩
    rw [fn10_putItem_c14, if_neg (by decide), fn10_putItem_c46, if_neg (by decide), e7, vls, if_neg (by decide), if_neg (by decide), if_neg (by decide), if_neg (by decide), if_neg (by decide), if_neg (by decide), if_neg (by decide), if_neg (by decide)]
  · obtain ⟨w7, e7⟩ := c77B (k := 10) hn (st_c0 h (by decide) (by decide) (by decide) (by decide))
    rw [vqu, if_neg (by decide), if_neg (by decide), List.nil_append, List.append_nil] at e7
    refine ⟨fun o => ⟨fun w => absurd w (by decide), fun _ => ⟨fun w => absurd w (by decide), fun _ => w7 o⟩⟩, ?_⟩
    rw [fn10_putItem_c14, if_neg (by decide), fn10_putItem_c46, if_neg (by decide), e7, vls, if_neg (by decide), if_neg (by decide), if_neg (by decide), if_neg (by decide), if_neg (by decide), if_neg (by decide), if_neg (by decide), if_neg (by decide)]
  · obtain ⟨w7, e7⟩ := c77B (k := 12) hn (st_bare h (by decide) (by decide) (by decide))
    rw [vqu, if_neg (by decide), if_neg (by decide), List.nil_append, List.append_nil] at e7
    refine ⟨fun o => ⟨fun w => absurd w (by decide), fun _ => ⟨fun _ => ⟨wr, fun _ => wput5 o _ _ _ _ _, fun _ => w7 o⟩, fun w => absurd (by decide) w⟩⟩, ?_⟩
    rw [fn10_putItem_c14, if_neg (by decide), fn10_putItem_c46, if_pos (by decide)]
    by_cases h0 : 0 < n ∧ swd g n 0
    · rw [if_neg (fun w => er.mp w h0), e7, vls, if_neg (by decide), if_neg (by decide), if_neg (by decide), if_neg (by decide), if_neg (by decide), if_neg (by decide), if_pos (by decide), vpr_t h0]
    · rw [if_pos (er.mpr h0), put4_eq, vls, if_neg (by decide), if_neg (by decide), if_neg (by decide), if_neg (by decide), if_neg (by decide), if_neg (by decide), if_pos (by decide), vpr_f h0]
  · obtain ⟨w7, e7⟩ := c77B (k := 13) hn (st_c1 h (by decide) (by decide) (by decide) (by decide))
    rw [vqu, if_neg (by decide), if_neg (by decide), List.nil_append, List.append_nil] at e7
    refine ⟨fun o => ⟨fun w => absurd w (by decide), fun _ => ⟨fun w => absurd w (by decide), fun _ => w7 o⟩⟩, ?_⟩
    rw [fn10_putItem_c14, if_neg (by decide), fn10_putItem_c46, if_neg (by decide), e7, vls, if_neg (by decide), if_neg (by decide), if_neg (by decide), if_neg (by decide), if_neg (by decide), if_neg (by decide), if_neg (by decide), if_pos (by decide)]
  · obtain ⟨w7, e7⟩ := c77B (k := 14) hn (st_c1 h (by decide) (by decide) (by decide) (by decide))
    rw [vqu, if_neg (by decide), if_neg (by decide), List.nil_append, List.append_nil] at e7
    refine ⟨fun o => ⟨fun w => absurd w (by decide), fun _ => ⟨fun w => absurd w (by decide), fun _ => w7 o⟩⟩, ?_⟩
    rw [fn10_putItem_c14, if_neg (by decide), fn10_putItem_c46, if_neg (by decide), e7, vls, if_neg (by decide), if_neg (by decide), if_neg (by decide), if_neg (by decide), if_neg (by decide), if_neg (by decide), if_neg (by decide), if_pos (by decide)]
  · obtain ⟨w7, e7⟩ := c77B (k := 24) hn (st_c0 h (by decide) (by decide) (by decide) (by decide))
    rw [vqu, if_pos (by decide)] at e7
    refine ⟨fun o => ⟨fun w => absurd w (by decide), fun _ => ⟨fun w => absurd w (by decide), fun _ => w7 o⟩⟩, ?_⟩
    rw [fn10_putItem_c14, if_neg (by decide), fn10_putItem_c46, if_neg (by decide), e7, vls, if_neg (by decide), if_neg (by decide), if_neg (by decide), if_neg (by decide), if_neg (by decide), if_pos (by decide)]
  · obtain ⟨w7, e7⟩ := c77B (k := 25) hn (st_c0 h (by decide) (by decide) (by decide) (by decide))
    rw [vqu, if_neg (by decide), if_neg (by decide), List.nil_append, List.append_nil] at e7
    refine ⟨fun o => ⟨fun w => absurd w (by decide), fun _ => ⟨fun w => absurd w (by decide), fun _ => w7 o⟩⟩, ?_⟩
    rw [fn10_putItem_c14, if_neg (by decide), fn10_putItem_c46, if_neg (by decide), e7, vls, if_neg (by decide), if_neg (by decide), if_neg (by decide), if_neg (by decide), if_neg (by decide), if_neg (by decide), if_neg (by decide), if_neg (by decide)]
  · obtain ⟨w7, e7⟩ := c77B (k := 26) hn (st_c0 h (by decide) (by decide) (by decide) (by decide))
    rw [vqu, if_neg (by decide), if_neg (by decide), List.nil_append, List.append_nil] at e7
    refine ⟨fun o => ⟨fun w => absurd w (by decide), fun _ => ⟨fun w => absurd w (by decide), fun _ => w7 o⟩⟩, ?_⟩
    rw [fn10_putItem_c14, if_neg (by decide), fn10_putItem_c46, if_neg (by decide), e7, vls, if_neg (by decide), if_neg (by decide), if_neg (by decide), if_neg (by decide), if_neg (by decide), if_neg (by decide), if_neg (by decide), if_neg (by decide)]
  · obtain ⟨w7, e7⟩ := c77B (k := 28) hn (st_bare h (by decide) (by decide) (by decide))
    rw [vqu, if_neg (by decide), if_neg (by decide), List.nil_append, List.append_nil] at e7
    refine ⟨fun o => ⟨fun w => absurd w (by decide), fun _ => ⟨fun _ => ⟨wr, fun _ => wput5 o _ _ _ _ _, fun _ => w7 o⟩, fun w => absurd (by decide) w⟩⟩, ?_⟩
    rw [fn10_putItem_c14, if_neg (by decide), fn10_putItem_c46, if_pos (by decide)]
    by_cases h0 : 0 < n ∧ swd g n 0
    · rw [if_neg (fun w => er.mp w h0), e7, vls, if_neg (by decide), if_neg (by decide), if_neg (by decide), if_neg (by decide), if_neg (by decide), if_neg (by decide), if_pos (by decide), vpr_t h0]
    · rw [if_pos (er.mpr h0), put4_eq, vls, if_neg (by decide), if_neg (by decide), if_neg (by decide), if_neg (by decide), if_neg (by decide), if_neg (by decide), if_pos (by decide), vpr_f h0]
  · obtain ⟨w7, e7⟩ := c77B (k := 29) hn (st_c1 h (by decide) (by decide) (by decide) (by decide))
    rw [vqu, if_neg (by decide), if_neg (by decide), List.nil_append, List.append_nil] at e7
    refine ⟨fun o => ⟨fun w => absurd w (by decide), fun _ => ⟨fun w => absurd w (by decide), fun _ => w7 o⟩⟩, ?_⟩
    rw [fn10_putItem_c14, if_neg (by decide), fn10_putItem_c46, if_neg (by decide), e7, vls, if_neg (by decide), if_neg (by decide), if_neg (by decide), if_neg (by decide), if_neg (by decide), if_neg (by decide), if_neg (by decide), if_pos (by decide)]
  · obtain ⟨w7, e7⟩ := c77B (k := 30) hn (st_c1 h (by decide) (by decide) (by decide) (by decide))
    rw [vqu, if_neg (by decide), if_neg (by decide), List.nil_append, List.append_nil] at e7
    refine ⟨fun o => ⟨fun w => absurd w (by decide), fun _ => ⟨fun w => absurd w (by decide), fun _ => w7 o⟩⟩, ?_⟩
    rw [fn10_putItem_c14, if_neg (by decide), fn10_putItem_c46, if_neg (by decide), e7, vls, if_neg (by decide), if_neg (by decide), if_neg (by decide), if_neg (by decide), if_neg (by decide), if_neg (by decide), if_neg (by decide), if_pos (by decide)]
