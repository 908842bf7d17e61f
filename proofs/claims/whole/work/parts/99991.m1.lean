/-! PURE MATHEMATICS: the class's meanings against the reference's. Numbers -/
theorem q_lt {a b : Nat} (ha : a < 2147483648) (hb : b < 2147483648) : Int32.ofNat a < Int32.ofNat b ↔ a < b := nI_ltI ha hb
theorem q_le {a b : Nat} (ha : a < 2147483648) (hb : b < 2147483648) : Int32.ofNat a ≤ Int32.ofNat b ↔ a ≤ b := nI_leI ha hb
theorem q_eq {a b : Nat} (ha : a < 2147483648) (hb : b < 2147483648) : Int32.ofNat a = Int32.ofNat b ↔ a = b := nI_eq ha hb
theorem q_cl {a : Nat} (ha : a < 2147483648) : (Int32.ofNat a).toNatClampNeg = a := nI_clamp ha
theorem q_add (a b : Nat) : Int32.ofNat a + Int32.ofNat b = Int32.ofNat (a + b) := (Int32.ofNat_add a b).symm
theorem q_1 (a : Nat) : Int32.ofNat a + 1 = Int32.ofNat (a + 1) := q_add a 1
theorem q_sub {a b : Nat} (h : b ≤ a) : Int32.ofNat a - Int32.ofNat b = Int32.ofNat (a - b) := by
  have h1 : Int32.ofNat a = Int32.ofNat (a - b) + Int32.ofNat b := by rw [q_add, Nat.sub_add_cancel h]
  rw [h1]
  exact Int32.add_sub_cancel _ _
theorem q_pos {a : Nat} (ha : a < 2147483648) : ¬ Int32.ofNat a < 0 := nI_pos ha
theorem q_of {x : Int32} (h : ¬ x < 0) : ∃ a : Nat, a < 2147483648 ∧ x = Int32.ofNat a := nI_of h
theorem q_inb {a n : Nat} (h : a < n) (hn : n < 2147483648) : am_inb (Int32.ofNat a) n = true := by
  have h1 := nI_in h hn
  have h2 : ¬ Int32.ofNat a < 0 := fun q => h1 (Or.inl q)
  have h3 : Nat.ble n (Int32.ofNat a).toNatClampNeg = false := by
    cases hb : Nat.ble n (Int32.ofNat a).toNatClampNeg with
    | false => rfl
    | true => exact absurd (Or.inr (Nat.le_of_ble_eq_true hb)) h1
  simp [am_inb, h2, h3]
theorem q_nar {x : Int32} (h0 : 0 ≤ x) (h1 : x ≤ 65535) : vp_nar .char x = x := by
  have a0 : (0 : Int) ≤ x.toInt := by
    have := Int32.le_iff_toInt_le.mp h0
    exact this
  have a1 : x.toInt < 65536 := by
    have := Int32.le_iff_toInt_le.mp h1
    have e : (65535 : Int32).toInt = 65535 := by decide
    omega
  have e := lg_i2c_word a0 a1
  rw [lg_i2c_nf] at e
  exact e
theorem q_fit {x : Int32} (h0 : 0 ≤ x) (h1 : x ≤ 65535) : am_fit .char (.inl x) = true := by
  simp [am_fit, h0, h1]
abbrev okc (x : Int32) : Prop := x = 10 ∨ (32 ≤ x ∧ x ≤ 126)
theorem okc.b {x : Int32} (h : okc x) : 0 ≤ x ∧ x ≤ 65535 := by
  unfold okc at h
  grind
/-- the text t is of k characters, those of g -/
def Tx (t : qt6) (k : Nat) (g : Nat → Int32) : Prop := qg6_length t = Int32.ofNat k ∧ ∀ i, i < k → qg6_chars t i = g i ∧ okc (g i)
theorem upd_at (f : Nat → Int32) (k : Nat) (x : Int32) : upd f k x k = x := by simp [upd]
theorem upd_ne {f : Nat → Int32} {k j : Nat} {x : Int32} (h : j ≠ k) : upd f k x j = f j := by simp [upd, h]
theorem Tx.put {t : qt6} {k n : Nat} {g : Nat → Int32} {c : Int32} (h : Tx t k g) (hk : k < n) (hn : n ≤ 1000) (hc : okc c) : wp6_put n t c ∧ fn6_put n t c = (1, (Int32.ofNat (k + 1), qg6_spilled t, upd (qg6_chars t) k c)) ∧ Tx (fn6_put n t c).2 (k + 1) (upd g k c) := by
  obtain ⟨h1, h2⟩ := h
  have hlt : qg6_length t < Int32.ofNat n := by rw [h1]; exact (q_lt (by omega) (by omega)).mpr hk
  have e : fn6_put n t c = (1, (Int32.ofNat (k + 1), qg6_spilled t, upd (qg6_chars t) k c)) := by
    rw [fq6_put, if_pos hlt, h1, q_cl (by omega), q_nar hc.b.1 hc.b.2]
    show (1, ((qg6_length t + 1, qg6_spilled t, upd (qg6_chars t) k c) : qt6)) = _
    rw [h1, q_1]
  refine ⟨⟨fun _ => by rw [h1]; exact q_inb hk (by omega), fun h => absurd hlt h⟩, e, ?_⟩
  rw [e]
  refine ⟨rfl, fun i hi => ?_⟩
  show upd (qg6_chars t) k c i = upd g k c i ∧ okc (upd g k c i)
  by_cases hik : i = k
  · subst hik
    rw [upd_at, upd_at]
    exact ⟨rfl, hc⟩
  · rw [upd_ne hik, upd_ne hik]
    exact h2 i (by omega)
theorem Tx.full {t : qt6} {k n : Nat} {g : Nat → Int32} {c : Int32} (h : Tx t k g) (hk : n ≤ k) (hn : k ≤ 1000) : wp6_put n t c ∧ fn6_put n t c = (0, (qg6_length t, 1, qg6_chars t)) := by
  have hlt : ¬ qg6_length t < Int32.ofNat n := by rw [h.1, q_lt (by omega) (by omega)]; omega
  refine ⟨⟨fun h => absurd h hlt, fun _ => trivial⟩, ?_⟩
  rw [fq6_put, if_neg hlt]
  rfl
theorem Tx.at {t : qt6} {k n i : Nat} {g : Nat → Int32} (h : Tx t k g) (hk : k ≤ n) (hn : n ≤ 1000) (hi : i < 2147483648) : wp6_at n t (Int32.ofNat i) ∧ fn6_at n t (Int32.ofNat i) = if i < k then g i else 0 := by
  obtain ⟨h1, h2⟩ := h
  have e1 : ¬ Int32.ofNat i < 0 := q_pos hi
  have e2 : qg6_length t ≤ Int32.ofNat i ↔ k ≤ i := by rw [h1]; exact q_le (by omega) hi
  have e3 : Int32.ofNat n ≤ Int32.ofNat i ↔ n ≤ i := q_le (by omega) hi
  refine ⟨⟨fun h => absurd h e1, fun _ => ⟨fun _ => trivial, fun h4 => ⟨fun _ => trivial, fun h5 => ?_⟩⟩⟩, ?_⟩
  · rw [e2] at h4
    rw [e3] at h5
    refine ⟨q_inb (by omega) (by omega), ?_⟩
    rw [q_cl hi, (h2 i (by omega)).1]
    exact q_fit (h2 i (by omega)).2.b.1 (h2 i (by omega)).2.b.2
  · rw [fq6_at, if_neg e1]
    by_cases h4 : i < k
    · rw [if_neg (by rw [e2]; omega), if_neg (by rw [e3]; omega), q_cl hi, if_pos h4]
      exact (h2 i h4).1
    · rw [if_pos (e2.mpr (by omega)), if_neg h4]
theorem Tx.neg {t : qt6} {n : Nat} {x : Int32} (h : x < 0) : wp6_at n t x ∧ fn6_at n t x = 0 := by
  refine ⟨⟨fun _ => trivial, fun h1 => absurd h h1⟩, ?_⟩
  rw [fq6_at, if_pos h]
theorem Tx.empty (n : Nat) (t : qt6) (g : Nat → Int32) : wp6_empty n t ∧ (fn6_empty n t).1 = qg6_length t ∧ Tx (fn6_empty n t).2 0 g ∧ qg6_spilled (fn6_empty n t).2 = 0 := by
  refine ⟨trivial, ?_, ?_, ?_⟩
  · rw [fq6_empty]
  · rw [fq6_empty]
    exact ⟨rfl, fun i hi => by omega⟩
  · rw [fq6_empty]
    rfl
/-! the parts of the invariant -/
def Jr (r : qt6) (s : hs) : Prop := ∃ k, k ≤ 40 ∧ hm_typed s = Int32.ofNat k ∧ Tx r k (hm_row s)
def Jt (t : qt6) (s : hs) : Prop := ∃ k, k ≤ 240 ∧ hm_length s = Int32.ofNat k ∧ Tx t k (hm_template s)
def Ju (u : qt6) (s : hs) : Prop := ∃ k, k ≤ 1000 ∧ hm_size s = Int32.ofNat k ∧ Tx u k (hm_out s)
def Jm (m : qt2) (s : hs) : Prop := (∀ v, v < 8 → ∃ k, k ≤ 4 ∧ qg2_counts m v = Int32.ofNat k ∧ hm_counts s v = Int32.ofNat k) ∧ (∀ q, q < 32 → ∃ k, k ≤ 40 ∧ qg2_lengths m q = Int32.ofNat k ∧ hm_lengths s q = Int32.ofNat k ∧ ∀ i, i < k → qg2_chars m (q * 40 + i) = hm_items s (40 * q + i) ∧ okc (hm_items s (40 * q + i))) ∧ ∀ v, v < 8 → qg2_alone m v = -1 ∧ hm_alone s v = -1
/-! calls that do one thing -/
theorem fuel_fu : hg_fu = 999 + 1 := hg_fu_eq
theorem m_type {r : qt6} {s : hs} (t : qt6) (m : qt2) (y : qt0) (x : qt5) (c : qt1) (u : qt6) (h : Jr r s) (p : Int32) (h0 : 0 ≤ p) (h1 : p ≤ 65535) : wp9_type r t m y x c u p ∧ wp10_type s p ∧ (fn9_type r t m y x c u p).1 = (fn10_type s p).1 ∧ Jr (fn9_type r t m y x c u p).2 (fn10_type s p).2 ∧ ∃ a b, (fn10_type s p).2 = hu_typed (hu_row (hu_thrown s 0) a) b := by
  obtain ⟨k, hk, hs, hT⟩ := h
  have e40 : hm_typed (hu_thrown s 0) = Int32.ofNat k := hs
  have hin : k < 40 → am_inb (hm_typed (hu_thrown s 0)) 40 = true := fun hlt => by rw [e40]; exact q_inb hlt (by omega)
  have hne : hm_typed (hu_thrown s 0) = 40 ↔ k = 40 := by rw [e40]; exact q_eq (b := 40) (by omega) (by omega)
  have hw : fn4_isWritable p = if okc p then 1 else 0 := by
    rw [fq4_isWritable]
    unfold okc
    grind
  have h10 : fn10_type s p = if okc p then (if k = 40 then (0, hu_thrown s 0) else (1, hu_typed (hu_row (hu_thrown s 0) (upd (hm_row s) k p)) (Int32.ofNat (k + 1)))) else (0, hu_thrown s 0) := by
    have e9 : (hu_typed (ha_row (hu_thrown s 0) (hm_typed (hu_thrown s 0)).toNatClampNeg (vp_nar .char p)) (hm_typed (ha_row (hu_thrown s 0) (hm_typed (hu_thrown s 0)).toNatClampNeg (vp_nar .char p)) + 1)) = hu_typed (hu_row (hu_thrown s 0) (upd (hm_row s) k p)) (Int32.ofNat (k + 1)) := by
      have e8 : hm_typed (ha_row (hu_thrown s 0) (hm_typed (hu_thrown s 0)).toNatClampNeg (vp_nar .char p)) = Int32.ofNat k := hs
      rw [e8, e40, q_cl (by omega), q_nar h0 h1, q_1]
      rfl
    rw [fq10_type, e9]
    simp only [hne]
    unfold okc
    grind
  rw [h10]
  by_cases ho : okc p
  · rw [if_pos ho]
    rw [if_pos ho] at hw
    by_cases hk40 : k = 40
    · rw [if_pos hk40]
      obtain ⟨w1, w2⟩ := Tx.full (c := p) hT (n := 40) (by omega) (by omega)
      have e : fn9_type r t m y x c u p = (0, (fn6_put 40 r p).2) := by
        rw [fq9_type, if_neg (by rw [hw]; decide), w2]
        rfl
      refine ⟨⟨trivial, fun h => by rw [hw] at h; exact absurd h (by decide), fun _ => w1⟩, ?_, by rw [e], ?_, hm_row s, hm_typed s, rfl⟩
      · refine ⟨fun _ => ⟨fun _ => trivial, fun h => absurd (hne.mpr hk40) h⟩, fun _ => ⟨fun _ => trivial, fun _ => ⟨fun _ => trivial, fun _ => ⟨fun _ => trivial, fun h => absurd (hne.mpr hk40) h⟩⟩⟩⟩
      · rw [e, w2]
        exact ⟨k, hk, hs, hT⟩
    · rw [if_neg hk40]
      obtain ⟨w1, w2, w3⟩ := Tx.put (c := p) hT (n := 40) (by omega) (by omega) ho
      have e : fn9_type r t m y x c u p = (1, (fn6_put 40 r p).2) := by
        rw [fq9_type, if_neg (by rw [hw]; decide), w2]
        rfl
      refine ⟨⟨trivial, fun h => by rw [hw] at h; exact absurd h (by decide), fun _ => w1⟩, ?_, by rw [e], ?_, _, _, rfl⟩
      · have hi := hin (by omega)
        exact ⟨fun _ => ⟨fun _ => trivial, fun _ => hi⟩, fun _ => ⟨fun _ => trivial, fun _ => ⟨fun _ => trivial, fun _ => ⟨fun _ => trivial, fun _ => hi⟩⟩⟩⟩
      · rw [e]
        exact ⟨k + 1, by omega, rfl, w3⟩
  · rw [if_neg ho]
    rw [if_neg ho] at hw
    have e : fn9_type r t m y x c u p = (0, r) := by
      rw [fq9_type, if_pos hw]
    refine ⟨⟨trivial, fun _ => trivial, fun h => absurd hw h⟩, ?_, by rw [e], ?_, hm_row s, hm_typed s, rfl⟩
    · unfold okc at ho
      refine ⟨fun h => absurd (Or.inl h) ho, fun _ => ⟨fun _ => trivial, fun h2 => ⟨fun _ => trivial, fun h3 => ?_⟩⟩⟩
      exfalso
      grind
    · rw [e]
      exact ⟨k, hk, hs, hT⟩
