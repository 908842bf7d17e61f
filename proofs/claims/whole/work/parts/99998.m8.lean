/-! constants; spelling; names; ampersands -/
theorem j_len {k : Nat} (hk' : k < 37) : fnJ_length k = Int32.ofNat (hg_ln.getD k 0) := by
  rw [fnJ_length, fqj_length]
  revert k
  decide
theorem j_wlen {k : Nat} (hk' : k < 37) : wpJ_length k := ⟨hk', trivial⟩
theorem j_ln {k : Nat} : hg_ln.getD k 0 ≤ 30 := by
  by_cases h : k < 37
  · revert k; decide
  · rw [List.getD_eq_getElem?_getD, List.getElem?_eq_none (by simp only [hg_ln, List.length_cons, List.length_nil]; omega)]
    exact Nat.zero_le _
theorem j_tab : ∀ k, k < 37 → ∀ j, j < hg_ln.getD k 0 → (((((hg_by k j) &&& (255 : Int32))).toUInt32 % 65536).toInt32) = hg_by k j ∧ 0 ≤ hg_by k j ∧ hg_by k j ≤ 126 ∧ okc (hg_by k j) := by decide +kernel
theorem j_at {k j : Nat} (h1 : k < 37) (h2 : j < hg_ln.getD k 0) : fnJ_charAt k (Int32.ofNat j) = hg_by k j := by
  have := @j_ln k
  rw [fnJ_charAt, fqj_charAt, fqj_l1charAt, q_cl (by omega)]
  exact (j_tab k h1 j h2).1
theorem j_wat {k j : Nat} (h1 : k < 37) (h2 : j < hg_ln.getD k 0) : wpJ_charAt k (Int32.ofNat j) := by
  have := @j_ln k
  obtain ⟨e1, e2, e3, _⟩ := j_tab k h1 j h2
  have e3 : hg_by k j ≤ 65535 := Int32.le_trans e3 (by decide)
  have e4 : am_fit .char (.inl (((((hg_by k (Int32.ofNat j).toNatClampNeg) &&& (255 : Int32))).toUInt32 % 65536).toInt32)) = true := by
    rw [q_cl (by omega), e1]
    exact q_fit e2 e3
  refine ⟨h1, trivial, ⟨⟨q_pos (by omega), (q_lt (by omega) (by omega)).mpr h2⟩, q_inb h2 (by omega), e4⟩, ?_⟩
  rw [fqj_l1charAt]
  exact e4
/-! where a character stands -/
theorem j_ix_l {k : Nat} {v : Int32} (hk' : k < 37) : ∀ (d j fu : Nat), hg_ln.getD k 0 - j ≤ d → d < fu → j ≤ hg_ln.getD k 0 → wpj_ixChar_c7 fu (hg_ln.getD k 0) (hg_by k) (Int32.ofNat (hg_ln.getD k 0)) v (Int32.ofNat j) ∧ (fnj_ixChar_c7 fu (hg_ln.getD k 0) (hg_by k) (Int32.ofNat (hg_ln.getD k 0)) v (Int32.ofNat j) < 0 ↔ ∀ i, j ≤ i → i < hg_ln.getD k 0 → ¬ hg_by k i = v) := by
  have hl := @j_ln k
  intro d
  induction d with
  | zero =>
    intro j fu hd hf hj
    obtain ⟨fu, rfl⟩ : ∃ f, fu = f + 1 := ⟨fu - 1, by omega⟩
    have e : Int32.ofNat (hg_ln.getD k 0) ≤ Int32.ofNat j := (q_le (by omega) (by omega)).mpr (by omega)
    refine ⟨?_, ?_⟩
    · unfold wpj_ixChar_c7
      exact ⟨fun _ => trivial, fun q => absurd e q⟩
    · unfold fnj_ixChar_c7
      rw [if_pos e]
      exact ⟨fun _ i h1 h2 => by omega, fun _ => by decide⟩
  | succ d ih =>
    intro j fu hd hf hj
    obtain ⟨fu, rfl⟩ : ∃ f, fu = f + 1 := ⟨fu - 1, by omega⟩
    by_cases hje : j = hg_ln.getD k 0
    · have e : Int32.ofNat (hg_ln.getD k 0) ≤ Int32.ofNat j := (q_le (by omega) (by omega)).mpr (by omega)
      refine ⟨?_, ?_⟩
      · unfold wpj_ixChar_c7
        exact ⟨fun _ => trivial, fun q => absurd e q⟩
      · unfold fnj_ixChar_c7
        rw [if_pos e]
        exact ⟨fun _ i h1 h2 => by omega, fun _ => by decide⟩
    · have e : ¬ Int32.ofNat (hg_ln.getD k 0) ≤ Int32.ofNat j := fun q => by have := (q_le (by omega) (by omega)).mp q; omega
      obtain ⟨w, r⟩ := ih (j + 1) fu (by omega) (by omega) (by omega)
      refine ⟨?_, ?_⟩
      · unfold wpj_ixChar_c7
        rw [q_1]
        exact ⟨fun q => absurd q e, fun _ => ⟨q_inb (by omega) (by omega), fun _ => trivial, fun _ => w⟩⟩
      · unfold fnj_ixChar_c7
        rw [if_neg e, q_cl (by omega), q_1]
        by_cases hv : hg_by k j = v
        · rw [if_pos hv]
          exact ⟨fun q => absurd q (q_pos (by omega)), fun q => absurd hv (q j (by omega) (by omega))⟩
        · rw [if_neg hv, r]
          constructor
          · intro q i h1 h2
            by_cases hi : i = j
            · rw [hi]; exact hv
            · exact q i (by omega) h2
          · intro q i h1 h2
            exact q i (by omega) h2
theorem j_i8 : ∀ v : Nat, v < 128 → (Int32.ofNat v).toInt8.toInt32 = Int32.ofNat v := by decide +kernel
theorem j_ix {k : Nat} {v : Int32} (hk' : k < 37) (hl0 : 0 < hg_ln.getD k 0) (h0 : 0 ≤ v) (h1 : v ≤ 126) : wpJ_indexOf k v ∧ (fnJ_indexOf k v < 0 ↔ ∀ i, i < hg_ln.getD k 0 → ¬ hg_by k i = v) := by
  have hl := @j_ln k
  have e0 : ¬ v < 0 := Int32.not_lt.mpr h0
  have e1 : ¬ (255 : Int32) < v := Int32.not_lt.mpr (Int32.le_trans h1 (by decide))
  have ec : fnj_canEncode v = 1 := by rw [fqj_canEncode, if_neg e0, if_neg e1]
  have ev : v.toInt8.toInt32 = v := by
    obtain ⟨a, ha, rfl⟩ := q_of e0
    refine j_i8 a ?_
    have := (q_le (b := 126) ha (by omega)).mp h1
    omega
  have en : fnj_length (hg_ln.getD k 0) (hg_by k) = Int32.ofNat (hg_ln.getD k 0) := j_len hk'
  have emx : fnJ_max (0 : Int32) 0 = Int32.ofNat 0 := by rw [fqJ_max]; decide
  have emn : fnJ_min (Int32.ofNat (hg_ln.getD k 0)) (Int32.ofNat (hg_ln.getD k 0)) = Int32.ofNat (hg_ln.getD k 0) := by rw [fqJ_min]; exact ite_self _
  have elt : Int32.ofNat 0 < Int32.ofNat (hg_ln.getD k 0) := (q_lt (by omega) (by omega)).mpr hl0
  obtain ⟨w, r⟩ := j_ix_l (v := v) hk' 30 0 hg_fu (by omega) (by rw [hg_fu_eq]; omega) (by omega)
  constructor
  · refine ⟨hk', trivial, trivial, trivial, fun _ => trivial, fun _ => ⟨trivial, trivial, fun _ => ?_, fun _ => trivial⟩⟩
    unfold wpj_ixChar
    rw [en, emx, emn, ev]
    exact w
  · rw [fnJ_indexOf, fqj_ix, fqj_ix2, fqj_l1ix, if_neg (by rw [ec]; decide), en, emx, emn, if_pos elt, fqj_ixChar, ev, r]
    exact ⟨fun q i hi => q i (by omega) hi, fun q i _ hi => q i hi⟩
/-! spelling -/
theorem l_sp0 {x : qt5} {A v : Int32} {k : Nat} (hk' : k < 37) (fu : Nat) (hf : 0 < fu) : wp5_spells_c20 fu x A k 0 v ∧ fn5_spells_c20 fu x A k 0 v = 0 := by
  obtain ⟨fu, rfl⟩ : ∃ f, fu = f + 1 := ⟨fu - 1, by omega⟩
  have hb : am_fit .boolean (.inl 0) = true := by decide
  refine ⟨?_, ?_⟩
  · unfold wp5_spells_c20
    exact ⟨j_wlen hk', fun _ => hb, fun _ => ⟨fun _ => hb, fun q => absurd rfl q⟩⟩
  · unfold fn5_spells_c20
    rw [if_pos rfl]
    exact ite_self _
theorem l_sp {x : qt5} {s : hs} {n : Nat} {g : Nat → Int32} (h : CH x s n g) {a k : Nat} (ha : a ≤ 10000) (hk' : k < 37) : ∀ (d j fu : Nat), hg_ln.getD k 0 - j ≤ d → d + 1 < fu → j ≤ hg_ln.getD k 0 → wp5_spells_c20 fu x (Int32.ofNat a) k 1 (Int32.ofNat j) ∧ (fn5_spells_c20 fu x (Int32.ofNat a) k 1 (Int32.ofNat j) = 0 ↔ ¬ ∀ i, j ≤ i → i < hg_ln.getD k 0 → g (a + i) = hg_by k i) := by
  have hl := @j_ln k
  have hb : am_fit .boolean (.inl 1) = true := by decide
  intro d
  induction d with
  | zero =>
    intro j fu hd hf hj
    obtain ⟨fu, rfl⟩ : ∃ f, fu = f + 1 := ⟨fu - 1, by omega⟩
    have e : fnJ_length k ≤ Int32.ofNat j := by rw [j_len hk']; exact (q_le (by omega) (by omega)).mpr (by omega)
    refine ⟨?_, ?_⟩
    · unfold wp5_spells_c20
      exact ⟨j_wlen hk', fun _ => hb, fun q => absurd e q⟩
    · unfold fn5_spells_c20
      rw [if_pos e]
      exact ⟨fun q => absurd q (by decide), fun q => absurd (fun i h1 h2 => by omega) q⟩
  | succ d ih =>
    intro j fu hd hf hj
    obtain ⟨fu, rfl⟩ : ∃ f, fu = f + 1 := ⟨fu - 1, by omega⟩
    by_cases hje : j = hg_ln.getD k 0
    · have e : fnJ_length k ≤ Int32.ofNat j := by rw [j_len hk']; exact (q_le (by omega) (by omega)).mpr (by omega)
      refine ⟨?_, ?_⟩
      · unfold wp5_spells_c20
        exact ⟨j_wlen hk', fun _ => hb, fun q => absurd e q⟩
      · unfold fn5_spells_c20
        rw [if_pos e]
        exact ⟨fun q => absurd q (by decide), fun q => absurd (fun i h1 h2 => by omega) q⟩
    · have e : ¬ fnJ_length k ≤ Int32.ofNat j := fun q => by rw [j_len hk'] at q; have := (q_le (by omega) (by omega)).mp q; omega
      obtain ⟨w, r⟩ := ih (j + 1) fu (by omega) (by omega) (by omega)
      obtain ⟨w0, r0⟩ := l_sp0 (x := x) (A := Int32.ofNat a) (v := Int32.ofNat (j + 1)) hk' fu (by omega)
      have hs' : fn5_sign x (Int32.ofNat a + Int32.ofNat j) = g (a + j) := by rw [q_add]; exact h.sign (by omega)
      have hw' : wp5_sign x (Int32.ofNat a + Int32.ofNat j) := by rw [q_add]; exact h.wsign (by omega)
      have hc : fnJ_charAt k (Int32.ofNat j) = hg_by k j := j_at hk' (by omega)
      refine ⟨?_, ?_⟩
      · unfold wp5_spells_c20
        rw [q_1]
        exact ⟨j_wlen hk', fun q => absurd q e, fun _ => ⟨fun _ => hb, fun _ => ⟨hw', j_wat hk' (by omega), fun _ => w, fun _ => w0⟩⟩⟩
      · unfold fn5_spells_c20
        rw [if_neg e, if_neg (show ¬ (1 : Int32) = 0 by decide), hs', hc, q_1]
        by_cases hv : g (a + j) = hg_by k j
        · rw [if_pos hv, r]
          constructor
          · intro q q2
            exact q (fun i h1 h2 => q2 i (by omega) h2)
          · intro q q2
            refine q (fun i h1 h2 => ?_)
            by_cases hi : i = j
            · rw [hi]; exact hv
            · exact q2 i (by omega) h2
        · rw [if_neg hv, r0]
          exact ⟨fun _ q => hv (q j (by omega) (by omega)), fun _ => rfl⟩
theorem CH.spells {x : qt5} {s : hs} {n : Nat} {g : Nat → Int32} (h : CH x s n g) {a b k : Nat} (ha : a ≤ 10000) (hb : b ≤ 10000) (hab : a ≤ b) (hk' : k < 37) : wp5_spells x (Int32.ofNat a) (Int32.ofNat b) k ∧ (fn5_spells x (Int32.ofNat a) (Int32.ofNat b) k = 0 ↔ ¬ (b = a + hg_ln.getD k 0 ∧ ∀ i, i < hg_ln.getD k 0 → g (a + i) = hg_by k i)) := by
  have hl := @j_ln k
  have e : Int32.ofNat b - Int32.ofNat a = fnJ_length k ↔ b = a + hg_ln.getD k 0 := by
    rw [q_sub hab, j_len hk', q_eq (by omega) (by omega)]
    omega
  obtain ⟨w, r⟩ := l_sp h ha hk' 30 0 hg_fu (by omega) (by rw [hg_fu_eq]; omega) (by omega)
  obtain ⟨w0, r0⟩ := l_sp0 (x := x) (A := Int32.ofNat a) (v := 0) hk' hg_fu (by rw [hg_fu_eq]; omega)
  refine ⟨⟨j_wlen hk', fun _ => w, fun _ => w0⟩, ?_⟩
  rw [fq5_spells]
  by_cases hbe : b = a + hg_ln.getD k 0
  · rw [if_pos (e.mpr hbe)]
    refine r.trans ⟨fun q q2 => q (fun i _ hi => q2.2 i hi), fun q q2 => q ⟨hbe, fun i hi => q2 i (by omega) hi⟩⟩
  · rw [if_neg (fun q => hbe (e.mp q))]
    exact ⟨fun _ q => hbe q.1, fun _ => r0⟩
theorem CH.sp0 {x : qt5} {s : hs} {n : Nat} {g : Nat → Int32} (h : CH x s n g) {a b : Nat} (ha : a ≤ 5000) (hb : b ≤ 5000) (hab : a ≤ b) : fn5_spells x (Int32.ofNat a) (Int32.ofNat b) 0 = 0 ↔ ¬ (b = a + 4 ∧ g (a + 0) = 60 ∧ g (a + 1) = 33 ∧ g (a + 2) = 45 ∧ g (a + 3) = 45) := by
  refine (h.spells (by omega) (by omega) hab (show 0 < 37 by omega)).2.trans (not_congr (and_congr_right (fun _ => ⟨fun q => ⟨q 0 (by decide), q 1 (by decide), q 2 (by decide), q 3 (by decide)⟩, fun q i hi => ?_⟩)))
  obtain ⟨q0, q1, q2, q3⟩ := q
  match i, hi with
  | 0, _ => exact q0
  | 1, _ => exact q1
  | 2, _ => exact q2
  | 3, _ => exact q3
theorem CH.ws0 {x : qt5} {s : hs} {n : Nat} {g : Nat → Int32} (h : CH x s n g) {a b : Nat} (ha : a ≤ 5000) (hb : b ≤ 5000) (hab : a ≤ b) : wp5_spells x (Int32.ofNat a) (Int32.ofNat b) 0 := (h.spells (by omega) (by omega) hab (show 0 < 37 by omega)).1
theorem CH.sp1 {x : qt5} {s : hs} {n : Nat} {g : Nat → Int32} (h : CH x s n g) {a b : Nat} (ha : a ≤ 5000) (hb : b ≤ 5000) (hab : a ≤ b) : fn5_spells x (Int32.ofNat a) (Int32.ofNat b) 1 = 0 ↔ ¬ (b = a + 6 ∧ g (a + 0) = 115 ∧ g (a + 1) = 99 ∧ g (a + 2) = 114 ∧ g (a + 3) = 105 ∧ g (a + 4) = 112 ∧ g (a + 5) = 116) := by
  refine (h.spells (by omega) (by omega) hab (show 1 < 37 by omega)).2.trans (not_congr (and_congr_right (fun _ => ⟨fun q => ⟨q 0 (by decide), q 1 (by decide), q 2 (by decide), q 3 (by decide), q 4 (by decide), q 5 (by decide)⟩, fun q i hi => ?_⟩)))
  obtain ⟨q0, q1, q2, q3, q4, q5⟩ := q
  match i, hi with
  | 0, _ => exact q0
  | 1, _ => exact q1
  | 2, _ => exact q2
  | 3, _ => exact q3
  | 4, _ => exact q4
  | 5, _ => exact q5
theorem CH.ws1 {x : qt5} {s : hs} {n : Nat} {g : Nat → Int32} (h : CH x s n g) {a b : Nat} (ha : a ≤ 5000) (hb : b ≤ 5000) (hab : a ≤ b) : wp5_spells x (Int32.ofNat a) (Int32.ofNat b) 1 := (h.spells (by omega) (by omega) hab (show 1 < 37 by omega)).1
theorem CH.sp2 {x : qt5} {s : hs} {n : Nat} {g : Nat → Int32} (h : CH x s n g) {a b : Nat} (ha : a ≤ 5000) (hb : b ≤ 5000) (hab : a ≤ b) : fn5_spells x (Int32.ofNat a) (Int32.ofNat b) 2 = 0 ↔ ¬ (b = a + 5 ∧ g (a + 0) = 115 ∧ g (a + 1) = 116 ∧ g (a + 2) = 121 ∧ g (a + 3) = 108 ∧ g (a + 4) = 101) := by
  refine (h.spells (by omega) (by omega) hab (show 2 < 37 by omega)).2.trans (not_congr (and_congr_right (fun _ => ⟨fun q => ⟨q 0 (by decide), q 1 (by decide), q 2 (by decide), q 3 (by decide), q 4 (by decide)⟩, fun q i hi => ?_⟩)))
  obtain ⟨q0, q1, q2, q3, q4⟩ := q
  match i, hi with
  | 0, _ => exact q0
  | 1, _ => exact q1
  | 2, _ => exact q2
  | 3, _ => exact q3
  | 4, _ => exact q4
theorem CH.ws2 {x : qt5} {s : hs} {n : Nat} {g : Nat → Int32} (h : CH x s n g) {a b : Nat} (ha : a ≤ 5000) (hb : b ≤ 5000) (hab : a ≤ b) : wp5_spells x (Int32.ofNat a) (Int32.ofNat b) 2 := (h.spells (by omega) (by omega) hab (show 2 < 37 by omega)).1
theorem CH.sp3 {x : qt5} {s : hs} {n : Nat} {g : Nat → Int32} (h : CH x s n g) {a b : Nat} (ha : a ≤ 5000) (hb : b ≤ 5000) (hab : a ≤ b) : fn5_spells x (Int32.ofNat a) (Int32.ofNat b) 3 = 0 ↔ ¬ (b = a + 5 ∧ g (a + 0) = 116 ∧ g (a + 1) = 105 ∧ g (a + 2) = 116 ∧ g (a + 3) = 108 ∧ g (a + 4) = 101) := by
  refine (h.spells (by omega) (by omega) hab (show 3 < 37 by omega)).2.trans (not_congr (and_congr_right (fun _ => ⟨fun q => ⟨q 0 (by decide), q 1 (by decide), q 2 (by decide), q 3 (by decide), q 4 (by decide)⟩, fun q i hi => ?_⟩)))
  obtain ⟨q0, q1, q2, q3, q4⟩ := q
  match i, hi with
  | 0, _ => exact q0
  | 1, _ => exact q1
  | 2, _ => exact q2
  | 3, _ => exact q3
  | 4, _ => exact q4
theorem CH.ws3 {x : qt5} {s : hs} {n : Nat} {g : Nat → Int32} (h : CH x s n g) {a b : Nat} (ha : a ≤ 5000) (hb : b ≤ 5000) (hab : a ≤ b) : wp5_spells x (Int32.ofNat a) (Int32.ofNat b) 3 := (h.spells (by omega) (by omega) hab (show 3 < 37 by omega)).1
theorem CH.sp4 {x : qt5} {s : hs} {n : Nat} {g : Nat → Int32} (h : CH x s n g) {a b : Nat} (ha : a ≤ 5000) (hb : b ≤ 5000) (hab : a ≤ b) : fn5_spells x (Int32.ofNat a) (Int32.ofNat b) 4 = 0 ↔ ¬ (b = a + 4 ∧ g (a + 0) = 104 ∧ g (a + 1) = 114 ∧ g (a + 2) = 101 ∧ g (a + 3) = 102) := by
  refine (h.spells (by omega) (by omega) hab (show 4 < 37 by omega)).2.trans (not_congr (and_congr_right (fun _ => ⟨fun q => ⟨q 0 (by decide), q 1 (by decide), q 2 (by decide), q 3 (by decide)⟩, fun q i hi => ?_⟩)))
  obtain ⟨q0, q1, q2, q3⟩ := q
  match i, hi with
  | 0, _ => exact q0
  | 1, _ => exact q1
  | 2, _ => exact q2
  | 3, _ => exact q3
theorem CH.ws4 {x : qt5} {s : hs} {n : Nat} {g : Nat → Int32} (h : CH x s n g) {a b : Nat} (ha : a ≤ 5000) (hb : b ≤ 5000) (hab : a ≤ b) : wp5_spells x (Int32.ofNat a) (Int32.ofNat b) 4 := (h.spells (by omega) (by omega) hab (show 4 < 37 by omega)).1
theorem CH.sp5 {x : qt5} {s : hs} {n : Nat} {g : Nat → Int32} (h : CH x s n g) {a b : Nat} (ha : a ≤ 5000) (hb : b ≤ 5000) (hab : a ≤ b) : fn5_spells x (Int32.ofNat a) (Int32.ofNat b) 5 = 0 ↔ ¬ (b = a + 3 ∧ g (a + 0) = 115 ∧ g (a + 1) = 114 ∧ g (a + 2) = 99) := by
  refine (h.spells (by omega) (by omega) hab (show 5 < 37 by omega)).2.trans (not_congr (and_congr_right (fun _ => ⟨fun q => ⟨q 0 (by decide), q 1 (by decide), q 2 (by decide)⟩, fun q i hi => ?_⟩)))
  obtain ⟨q0, q1, q2⟩ := q
  match i, hi with
  | 0, _ => exact q0
  | 1, _ => exact q1
  | 2, _ => exact q2
theorem CH.ws5 {x : qt5} {s : hs} {n : Nat} {g : Nat → Int32} (h : CH x s n g) {a b : Nat} (ha : a ≤ 5000) (hb : b ≤ 5000) (hab : a ≤ b) : wp5_spells x (Int32.ofNat a) (Int32.ofNat b) 5 := (h.spells (by omega) (by omega) hab (show 5 < 37 by omega)).1
theorem CH.sp6 {x : qt5} {s : hs} {n : Nat} {g : Nat → Int32} (h : CH x s n g) {a b : Nat} (ha : a ≤ 5000) (hb : b ≤ 5000) (hab : a ≤ b) : fn5_spells x (Int32.ofNat a) (Int32.ofNat b) 6 = 0 ↔ ¬ (b = a + 6 ∧ g (a + 0) = 97 ∧ g (a + 1) = 99 ∧ g (a + 2) = 116 ∧ g (a + 3) = 105 ∧ g (a + 4) = 111 ∧ g (a + 5) = 110) := by
  refine (h.spells (by omega) (by omega) hab (show 6 < 37 by omega)).2.trans (not_congr (and_congr_right (fun _ => ⟨fun q => ⟨q 0 (by decide), q 1 (by decide), q 2 (by decide), q 3 (by decide), q 4 (by decide), q 5 (by decide)⟩, fun q i hi => ?_⟩)))
  obtain ⟨q0, q1, q2, q3, q4, q5⟩ := q
  match i, hi with
  | 0, _ => exact q0
  | 1, _ => exact q1
  | 2, _ => exact q2
  | 3, _ => exact q3
  | 4, _ => exact q4
  | 5, _ => exact q5
theorem CH.ws6 {x : qt5} {s : hs} {n : Nat} {g : Nat → Int32} (h : CH x s n g) {a b : Nat} (ha : a ≤ 5000) (hb : b ≤ 5000) (hab : a ≤ b) : wp5_spells x (Int32.ofNat a) (Int32.ofNat b) 6 := (h.spells (by omega) (by omega) hab (show 6 < 37 by omega)).1
theorem CH.sp7 {x : qt5} {s : hs} {n : Nat} {g : Nat → Int32} (h : CH x s n g) {a b : Nat} (ha : a ≤ 5000) (hb : b ≤ 5000) (hab : a ≤ b) : fn5_spells x (Int32.ofNat a) (Int32.ofNat b) 7 = 0 ↔ ¬ (b = a + 2 ∧ g (a + 0) = 111 ∧ g (a + 1) = 110) := by
  refine (h.spells (by omega) (by omega) hab (show 7 < 37 by omega)).2.trans (not_congr (and_congr_right (fun _ => ⟨fun q => ⟨q 0 (by decide), q 1 (by decide)⟩, fun q i hi => ?_⟩)))
  obtain ⟨q0, q1⟩ := q
  match i, hi with
  | 0, _ => exact q0
  | 1, _ => exact q1
theorem CH.ws7 {x : qt5} {s : hs} {n : Nat} {g : Nat → Int32} (h : CH x s n g) {a b : Nat} (ha : a ≤ 5000) (hb : b ≤ 5000) (hab : a ≤ b) : wp5_spells x (Int32.ofNat a) (Int32.ofNat b) 7 := (h.spells (by omega) (by omega) hab (show 7 < 37 by omega)).1
theorem CH.sp8 {x : qt5} {s : hs} {n : Nat} {g : Nat → Int32} (h : CH x s n g) {a b : Nat} (ha : a ≤ 5000) (hb : b ≤ 5000) (hab : a ≤ b) : fn5_spells x (Int32.ofNat a) (Int32.ofNat b) 8 = 0 ↔ ¬ (b = a + 8 ∧ g (a + 0) = 60 ∧ g (a + 1) = 47 ∧ g (a + 2) = 115 ∧ g (a + 3) = 116 ∧ g (a + 4) = 121 ∧ g (a + 5) = 108 ∧ g (a + 6) = 101 ∧ g (a + 7) = 62) := by
  refine (h.spells (by omega) (by omega) hab (show 8 < 37 by omega)).2.trans (not_congr (and_congr_right (fun _ => ⟨fun q => ⟨q 0 (by decide), q 1 (by decide), q 2 (by decide), q 3 (by decide), q 4 (by decide), q 5 (by decide), q 6 (by decide), q 7 (by decide)⟩, fun q i hi => ?_⟩)))
  obtain ⟨q0, q1, q2, q3, q4, q5, q6, q7⟩ := q
  match i, hi with
  | 0, _ => exact q0
  | 1, _ => exact q1
  | 2, _ => exact q2
  | 3, _ => exact q3
  | 4, _ => exact q4
  | 5, _ => exact q5
  | 6, _ => exact q6
  | 7, _ => exact q7
theorem CH.ws8 {x : qt5} {s : hs} {n : Nat} {g : Nat → Int32} (h : CH x s n g) {a b : Nat} (ha : a ≤ 5000) (hb : b ≤ 5000) (hab : a ≤ b) : wp5_spells x (Int32.ofNat a) (Int32.ofNat b) 8 := (h.spells (by omega) (by omega) hab (show 8 < 37 by omega)).1
theorem CH.sp9 {x : qt5} {s : hs} {n : Nat} {g : Nat → Int32} (h : CH x s n g) {a b : Nat} (ha : a ≤ 5000) (hb : b ≤ 5000) (hab : a ≤ b) : fn5_spells x (Int32.ofNat a) (Int32.ofNat b) 9 = 0 ↔ ¬ (b = a + 9 ∧ g (a + 0) = 60 ∧ g (a + 1) = 47 ∧ g (a + 2) = 115 ∧ g (a + 3) = 99 ∧ g (a + 4) = 114 ∧ g (a + 5) = 105 ∧ g (a + 6) = 112 ∧ g (a + 7) = 116 ∧ g (a + 8) = 62) := by
  refine (h.spells (by omega) (by omega) hab (show 9 < 37 by omega)).2.trans (not_congr (and_congr_right (fun _ => ⟨fun q => ⟨q 0 (by decide), q 1 (by decide), q 2 (by decide), q 3 (by decide), q 4 (by decide), q 5 (by decide), q 6 (by decide), q 7 (by decide), q 8 (by decide)⟩, fun q i hi => ?_⟩)))
  obtain ⟨q0, q1, q2, q3, q4, q5, q6, q7, q8⟩ := q
  match i, hi with
  | 0, _ => exact q0
  | 1, _ => exact q1
  | 2, _ => exact q2
  | 3, _ => exact q3
  | 4, _ => exact q4
  | 5, _ => exact q5
  | 6, _ => exact q6
  | 7, _ => exact q7
  | 8, _ => exact q8
theorem CH.ws9 {x : qt5} {s : hs} {n : Nat} {g : Nat → Int32} (h : CH x s n g) {a b : Nat} (ha : a ≤ 5000) (hb : b ≤ 5000) (hab : a ≤ b) : wp5_spells x (Int32.ofNat a) (Int32.ofNat b) 9 := (h.spells (by omega) (by omega) hab (show 9 < 37 by omega)).1
theorem CH.sp10 {x : qt5} {s : hs} {n : Nat} {g : Nat → Int32} (h : CH x s n g) {a b : Nat} (ha : a ≤ 5000) (hb : b ≤ 5000) (hab : a ≤ b) : fn5_spells x (Int32.ofNat a) (Int32.ofNat b) 10 = 0 ↔ ¬ (b = a + 8 ∧ g (a + 0) = 60 ∧ g (a + 1) = 47 ∧ g (a + 2) = 116 ∧ g (a + 3) = 105 ∧ g (a + 4) = 116 ∧ g (a + 5) = 108 ∧ g (a + 6) = 101 ∧ g (a + 7) = 62) := by
  refine (h.spells (by omega) (by omega) hab (show 10 < 37 by omega)).2.trans (not_congr (and_congr_right (fun _ => ⟨fun q => ⟨q 0 (by decide), q 1 (by decide), q 2 (by decide), q 3 (by decide), q 4 (by decide), q 5 (by decide), q 6 (by decide), q 7 (by decide)⟩, fun q i hi => ?_⟩)))
  obtain ⟨q0, q1, q2, q3, q4, q5, q6, q7⟩ := q
  match i, hi with
  | 0, _ => exact q0
  | 1, _ => exact q1
  | 2, _ => exact q2
  | 3, _ => exact q3
  | 4, _ => exact q4
  | 5, _ => exact q5
  | 6, _ => exact q6
  | 7, _ => exact q7
theorem CH.ws10 {x : qt5} {s : hs} {n : Nat} {g : Nat → Int32} (h : CH x s n g) {a b : Nat} (ha : a ≤ 5000) (hb : b ≤ 5000) (hab : a ≤ b) : wp5_spells x (Int32.ofNat a) (Int32.ofNat b) 10 := (h.spells (by omega) (by omega) hab (show 10 < 37 by omega)).1
theorem CH.sp11 {x : qt5} {s : hs} {n : Nat} {g : Nat → Int32} (h : CH x s n g) {a b : Nat} (ha : a ≤ 5000) (hb : b ≤ 5000) (hab : a ≤ b) : fn5_spells x (Int32.ofNat a) (Int32.ofNat b) 11 = 0 ↔ ¬ (b = a + 3 ∧ g (a + 0) = 45 ∧ g (a + 1) = 45 ∧ g (a + 2) = 62) := by
  refine (h.spells (by omega) (by omega) hab (show 11 < 37 by omega)).2.trans (not_congr (and_congr_right (fun _ => ⟨fun q => ⟨q 0 (by decide), q 1 (by decide), q 2 (by decide)⟩, fun q i hi => ?_⟩)))
  obtain ⟨q0, q1, q2⟩ := q
  match i, hi with
  | 0, _ => exact q0
  | 1, _ => exact q1
  | 2, _ => exact q2
theorem CH.ws11 {x : qt5} {s : hs} {n : Nat} {g : Nat → Int32} (h : CH x s n g) {a b : Nat} (ha : a ≤ 5000) (hb : b ≤ 5000) (hab : a ≤ b) : wp5_spells x (Int32.ofNat a) (Int32.ofNat b) 11 := (h.spells (by omega) (by omega) hab (show 11 < 37 by omega)).1
/-! the reference's spelling -/
theorem sp01 (s : hs) (p0 p1 p2 p3 p4 p5 p6 p7 p8 : Int32) : am_fit .boolean (.inl (fn10_spells s p0 p1 p2 p3 p4 p5 p6 p7 p8)) = true := by
  have f0 : am_fit .boolean (.inl 0) = true := by decide
  have f1 : am_fit .boolean (.inl 1) = true := by decide
  have z89 : fn10_spells_c89 s p0 p2 p8 = 0 := by
    unfold fn10_spells_c89 fn10_spells_c90
    rw [if_pos rfl]
  have z43 : fn10_spells_c43 s p0 p2 p6 p7 p8 = 0 := by
    unfold fn10_spells_c43 fn10_spells_c44
    rw [if_pos rfl, z89]
  have z85 : am_fit .boolean (.inl (fn10_spells_c85 s p0 p2 p8)) = true := by
    unfold fn10_spells_c85 fn10_spells_c90 fn10_spells_c115
    rw [if_neg (by decide)]
    split
    · exact f1
    · split
      · exact f1
      · exact f0
  have z68 : am_fit .boolean (.inl (fn10_spells_c68 s p0 p2 p7 p8)) = true := by
    unfold fn10_spells_c68
    rw [z89]
    split
    · exact z85
    · split
      · exact z85
      · exact f0
  have z44 : am_fit .boolean (.inl (fn10_spells_c44 s p0 p2 p6 p7 p8 1)) = true := by
    unfold fn10_spells_c44
    rw [if_neg (by decide), z89]
    split
    · exact z68
    · split
      · exact z68
      · exact f0
  rw [fq10_spells, z43]
  split
  · split
    · split
      · split
        · exact z44
        · exact f0
      · exact f0
    · exact f0
  · exact f0
theorem CH.rsp {x : qt5} {s : hs} {n : Nat} {g : Nat → Int32} (h : CH x s n g) (c : qt1) {a : Nat} (ha : a ≤ 5000) (m w : Int32) (e1 e2 e3 e4 e5 e6 : Int32) : wp10_spells (hk s c) (Int32.ofNat a) m w e1 e2 e3 e4 e5 e6 ∧ (fn10_spells (hk s c) (Int32.ofNat a) m w e1 e2 e3 e4 e5 e6 = 0 ↔ ¬ (m = w ∧ g (a + 0) = e1 ∧ g (a + 1) = e2 ∧ g (a + 2) = e3 ∧ (w < 4 ∨ g (a + 3) = e4) ∧ (w < 5 ∨ g (a + 4) = e5) ∧ (w < 6 ∨ g (a + 5) = e6))) := by
  have h0 : fn10_ch (hk s c) (Int32.ofNat a) = g (a + 0) := h.ch c (by omega)
  constructor
  · unfold wp10_spells wp10_spells_c43 wp10_spells_c44 wp10_spells_c68 wp10_spells_c89 wp10_spells_c85 wp10_spells_c90 wp10_spells_c115
    simp (disch := omega) only [q_1, q_2, q_3, q_4, q_5, h.wch, implies_true, and_self, ite_true]
  · have z89 : fn10_spells_c89 (hk s c) (Int32.ofNat a) w e6 = 0 := by
      unfold fn10_spells_c89 fn10_spells_c90
      rw [if_pos rfl]
    have z43 : fn10_spells_c43 (hk s c) (Int32.ofNat a) w e4 e5 e6 = 0 := by
      unfold fn10_spells_c43 fn10_spells_c44
      rw [if_pos rfl, z89]
    have z85 : fn10_spells_c85 (hk s c) (Int32.ofNat a) w e6 = 0 ↔ ¬ (w < 6 ∨ g (a + 5) = e6) := by
      unfold fn10_spells_c85 fn10_spells_c90 fn10_spells_c115
      rw [if_neg (by decide), q_5, h.ch c (by omega)]
      by_cases k1 : w < 6
      · rw [if_pos k1]; simp [k1]
      · rw [if_neg k1]
        by_cases k2 : g (a + 5) = e6
        · rw [if_pos k2]; simp [k2]
        · rw [if_neg k2]; simp [k1, k2]
    have z68 : fn10_spells_c68 (hk s c) (Int32.ofNat a) w e5 e6 = 0 ↔ ¬ ((w < 5 ∨ g (a + 4) = e5) ∧ (w < 6 ∨ g (a + 5) = e6)) := by
      unfold fn10_spells_c68
      rw [q_4, h.ch c (by omega)]
      by_cases k1 : w < 5
      · rw [if_pos k1, z85]; simp [k1]
      · rw [if_neg k1]
        by_cases k2 : g (a + 4) = e5
        · rw [if_pos k2, z85]; simp [k2]
        · rw [if_neg k2, z89]; simp [k1, k2]
    have z44 : fn10_spells_c44 (hk s c) (Int32.ofNat a) w e4 e5 e6 1 = 0 ↔ ¬ ((w < 4 ∨ g (a + 3) = e4) ∧ (w < 5 ∨ g (a + 4) = e5) ∧ (w < 6 ∨ g (a + 5) = e6)) := by
      unfold fn10_spells_c44
      rw [if_neg (by decide), q_3, h.ch c (by omega)]
      by_cases k1 : w < 4
      · rw [if_pos k1, z68]; simp [k1]
      · rw [if_neg k1]
        by_cases k2 : g (a + 3) = e4
        · rw [if_pos k2, z68]; simp [k2]
        · rw [if_neg k2, z89]; simp [k1, k2]
    rw [fq10_spells, h0, q_1, q_2, h.ch c (by omega), h.ch c (by omega), z43]
    by_cases k1 : m = w
    · rw [if_pos k1]
      by_cases k2 : g (a + 0) = e1
      · rw [if_pos k2]
        by_cases k3 : g (a + 1) = e2
        · rw [if_pos k3]
          by_cases k4 : g (a + 2) = e3
          · rw [if_pos k4, z44]
            exact ⟨fun q q2 => q q2.2.2.2.2, fun q q2 => q ⟨k1, k2, k3, k4, q2⟩⟩
          · rw [if_neg k4]
            exact ⟨fun _ q => k4 q.2.2.2.1, fun _ => rfl⟩
        · rw [if_neg k3]
          exact ⟨fun _ q => k3 q.2.2.1, fun _ => rfl⟩
      · rw [if_neg k2]
        exact ⟨fun _ q => k2 q.2.1, fun _ => rfl⟩
    · rw [if_neg k1]
      exact ⟨fun _ q => k1 q.1, fun _ => rfl⟩
theorem CH.isScript {x : qt5} {s : hs} {n : Nat} {g : Nat → Int32} (h : CH x s n g) (c : qt1) {a m : Nat} (ha : a ≤ 5000) (hm : m ≤ 5000) : fn10_isScript (hk s c) (Int32.ofNat a) (Int32.ofNat m) = 0 ↔ ¬ (m = 6 ∧ g (a + 0) = 115 ∧ g (a + 1) = 99 ∧ g (a + 2) = 114 ∧ g (a + 3) = 105 ∧ g (a + 4) = 112 ∧ g (a + 5) = 116) := by
  rw [fq10_isScript]
  refine (h.rsp c ha _ 6 115 99 114 105 112 116).2.trans (not_congr ?_)
  rw [show (6 : Int32) = Int32.ofNat 6 from rfl, q_eq (by omega) (by omega)]
  refine and_congr_right (fun _ => ?_)
  simp [show ¬ (Int32.ofNat 6 < 4) by decide, show ¬ (Int32.ofNat 6 < 5) by decide, show ¬ (Int32.ofNat 6 < 6) by decide]
theorem CH.wisScript {x : qt5} {s : hs} {n : Nat} {g : Nat → Int32} (h : CH x s n g) (c : qt1) {a : Nat} (m : Int32) (ha : a ≤ 5000) : wp10_isScript (hk s c) (Int32.ofNat a) m := by
  unfold wp10_isScript
  exact ⟨(h.rsp c ha ..).1, sp01 ..⟩
theorem CH.isStyle {x : qt5} {s : hs} {n : Nat} {g : Nat → Int32} (h : CH x s n g) (c : qt1) {a m : Nat} (ha : a ≤ 5000) (hm : m ≤ 5000) : fn10_isStyle (hk s c) (Int32.ofNat a) (Int32.ofNat m) = 0 ↔ ¬ (m = 5 ∧ g (a + 0) = 115 ∧ g (a + 1) = 116 ∧ g (a + 2) = 121 ∧ g (a + 3) = 108 ∧ g (a + 4) = 101) := by
  rw [fq10_isStyle]
  refine (h.rsp c ha _ 5 115 116 121 108 101 101).2.trans (not_congr ?_)
  rw [show (5 : Int32) = Int32.ofNat 5 from rfl, q_eq (by omega) (by omega)]
  refine and_congr_right (fun _ => ?_)
  simp [show ¬ (Int32.ofNat 5 < 4) by decide, show ¬ (Int32.ofNat 5 < 5) by decide, show (Int32.ofNat 5 < 6) by decide]
theorem CH.wisStyle {x : qt5} {s : hs} {n : Nat} {g : Nat → Int32} (h : CH x s n g) (c : qt1) {a : Nat} (m : Int32) (ha : a ≤ 5000) : wp10_isStyle (hk s c) (Int32.ofNat a) m := by
  unfold wp10_isStyle
  exact ⟨(h.rsp c ha ..).1, sp01 ..⟩
theorem CH.isTitle {x : qt5} {s : hs} {n : Nat} {g : Nat → Int32} (h : CH x s n g) (c : qt1) {a m : Nat} (ha : a ≤ 5000) (hm : m ≤ 5000) : fn10_isTitle (hk s c) (Int32.ofNat a) (Int32.ofNat m) = 0 ↔ ¬ (m = 5 ∧ g (a + 0) = 116 ∧ g (a + 1) = 105 ∧ g (a + 2) = 116 ∧ g (a + 3) = 108 ∧ g (a + 4) = 101) := by
  rw [fq10_isTitle]
  refine (h.rsp c ha _ 5 116 105 116 108 101 101).2.trans (not_congr ?_)
  rw [show (5 : Int32) = Int32.ofNat 5 from rfl, q_eq (by omega) (by omega)]
  refine and_congr_right (fun _ => ?_)
  simp [show ¬ (Int32.ofNat 5 < 4) by decide, show ¬ (Int32.ofNat 5 < 5) by decide, show (Int32.ofNat 5 < 6) by decide]
theorem CH.wisTitle {x : qt5} {s : hs} {n : Nat} {g : Nat → Int32} (h : CH x s n g) (c : qt1) {a : Nat} (m : Int32) (ha : a ≤ 5000) : wp10_isTitle (hk s c) (Int32.ofNat a) m := by
  unfold wp10_isTitle
  exact ⟨(h.rsp c ha ..).1, sp01 ..⟩
theorem CH.href {x : qt5} {s : hs} {n : Nat} {g : Nat → Int32} (h : CH x s n g) (c : qt1) {a m : Nat} (ha : a ≤ 5000) (hm : m ≤ 5000) : fn10_spells (hk s c) (Int32.ofNat a) (Int32.ofNat m) 4 104 114 101 102 102 102 = 0 ↔ ¬ (m = 4 ∧ g (a + 0) = 104 ∧ g (a + 1) = 114 ∧ g (a + 2) = 101 ∧ g (a + 3) = 102) := by
  refine (h.rsp c ha _ 4 104 114 101 102 102 102).2.trans (not_congr ?_)
  rw [show (4 : Int32) = Int32.ofNat 4 from rfl, q_eq (by omega) (by omega)]
  refine and_congr_right (fun _ => ?_)
  simp [show ¬ (Int32.ofNat 4 < 4) by decide, show  (Int32.ofNat 4 < 5) by decide, show  (Int32.ofNat 4 < 6) by decide]
theorem CH.src {x : qt5} {s : hs} {n : Nat} {g : Nat → Int32} (h : CH x s n g) (c : qt1) {a m : Nat} (ha : a ≤ 5000) (hm : m ≤ 5000) : fn10_spells (hk s c) (Int32.ofNat a) (Int32.ofNat m) 3 115 114 99 99 99 99 = 0 ↔ ¬ (m = 3 ∧ g (a + 0) = 115 ∧ g (a + 1) = 114 ∧ g (a + 2) = 99) := by
  refine (h.rsp c ha _ 3 115 114 99 99 99 99).2.trans (not_congr ?_)
  rw [show (3 : Int32) = Int32.ofNat 3 from rfl, q_eq (by omega) (by omega)]
  refine and_congr_right (fun _ => ?_)
  simp [show  (Int32.ofNat 3 < 4) by decide, show  (Int32.ofNat 3 < 5) by decide, show  (Int32.ofNat 3 < 6) by decide]
theorem CH.action {x : qt5} {s : hs} {n : Nat} {g : Nat → Int32} (h : CH x s n g) (c : qt1) {a m : Nat} (ha : a ≤ 5000) (hm : m ≤ 5000) : fn10_spells (hk s c) (Int32.ofNat a) (Int32.ofNat m) 6 97 99 116 105 111 110 = 0 ↔ ¬ (m = 6 ∧ g (a + 0) = 97 ∧ g (a + 1) = 99 ∧ g (a + 2) = 116 ∧ g (a + 3) = 105 ∧ g (a + 4) = 111 ∧ g (a + 5) = 110) := by
  refine (h.rsp c ha _ 6 97 99 116 105 111 110).2.trans (not_congr ?_)
  rw [show (6 : Int32) = Int32.ofNat 6 from rfl, q_eq (by omega) (by omega)]
  refine and_congr_right (fun _ => ?_)
  simp [show ¬ (Int32.ofNat 6 < 4) by decide, show ¬ (Int32.ofNat 6 < 5) by decide, show ¬ (Int32.ofNat 6 < 6) by decide]
