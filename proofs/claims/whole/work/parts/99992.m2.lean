/-! calls on rows, items, answers -/
theorem q_mul (a b : Nat) : Int32.ofNat a * Int32.ofNat b = Int32.ofNat (a * b) := (Int32.ofNat_mul a b).symm
/-- the places from b + i up to b + k hold r -/
def fill (g : Nat → Int32) (b i k : Nat) (r : Nat → Int32) : Nat → Int32 := fun j => if b + i ≤ j ∧ j < b + k then r (j - b) else g j
theorem fill_done (g : Nat → Int32) (b k : Nat) (r : Nat → Int32) : fill g b k k r = g := by
  funext j
  unfold fill
  rw [if_neg (by omega)]
theorem fill_step (g : Nat → Int32) {b i k : Nat} (r : Nat → Int32) (h : i < k) : fill (upd g (b + i) (r i)) b (i + 1) k r = fill g b i k r := by
  funext j
  unfold fill upd
  by_cases h1 : b + (i + 1) ≤ j ∧ j < b + k
  · rw [if_pos h1, if_pos (by omega)]
  · rw [if_neg h1]
    by_cases h2 : j = b + i
    · subst h2
      rw [if_pos rfl, if_pos (by omega), Nat.add_sub_cancel_left]
    · rw [if_neg h2, if_neg (by omega)]
theorem fill_out {g : Nat → Int32} {b i k j : Nat} {r : Nat → Int32} (h : j < b + i ∨ b + k ≤ j) : fill g b i k r j = g j := by
  unfold fill
  rw [if_neg (by omega)]
theorem fill_in {g : Nat → Int32} {b i k j : Nat} {r : Nat → Int32} (h : i ≤ j) (h2 : j < k) : fill g b i k r (b + j) = r j := by
  unfold fill
  rw [if_pos (by omega), Nat.add_sub_cancel_left]
theorem m_wipe {r : qt6} {s : hs} (t : qt6) (m : qt2) (y : qt0) (x : qt5) (c : qt1) (u : qt6) (h : Jr r s) : wp9_wipe r t m y x c u ∧ wp10_wipe s ∧ (fn9_wipe r t m y x c u).1 = (fn10_wipe s).1 ∧ Jr (fn9_wipe r t m y x c u).2 (fn10_wipe s).2 ∧ (fn10_wipe s).2 = hu_typed (hu_thrown s 0) 0 := by
  obtain ⟨k, hk, hs, hT⟩ := h
  obtain ⟨w1, w2, w3, -⟩ := Tx.empty 40 r (hm_row s)
  rw [fq9_wipe, fq10_wipe]
  refine ⟨w1, trivial, ?_, ⟨0, by omega, rfl, w3⟩, rfl⟩
  show (fn6_empty 40 r).1 = hm_typed s
  rw [w2, hT.1, hs]
theorem m_clear {t : qt6} {s : hs} (r : qt6) (m : qt2) (y : qt0) (x : qt5) (c : qt1) (u : qt6) (h : Jt t s) : wp9_clear r t m y x c u ∧ wp10_clear s ∧ (fn9_clear r t m y x c u).1 = (fn10_clear s).1 ∧ Jt (fn9_clear r t m y x c u).2.1 (fn10_clear s).2 ∧ (fn9_clear r t m y x c u).2.2 = qu0_compiled y 0 ∧ (fn10_clear s).2 = hu_compiled (hu_length (hu_thrown s 0) 0) 0 := by
  obtain ⟨k, hk, hs, hT⟩ := h
  obtain ⟨w1, w2, w3, -⟩ := Tx.empty 240 t (hm_template s)
  rw [fq9_clear, fq10_clear]
  refine ⟨w1, trivial, ?_, ⟨0, by omega, rfl, w3⟩, rfl, rfl⟩
  show (fn6_empty 240 t).1 = hm_length s
  rw [w2, hT.1, hs]
theorem m_written {u : qt6} {s : hs} (r t : qt6) (m : qt2) (y : qt0) (x : qt5) (c : qt1) (h : Ju u s) : wp9_written r t m y x c u ∧ wp10_written s ∧ fn9_written r t m y x c u = (fn10_written s).1 ∧ (fn10_written s).2 = hu_thrown s 0 := by
  obtain ⟨k, hk, hs, hT⟩ := h
  rw [fq9_written, fq10_written]
  refine ⟨trivial, trivial, ?_, rfl⟩
  show qg6_length u = hm_size s
  rw [hT.1, hs]
theorem m_letter {u : qt6} {s : hs} (r t : qt6) (m : qt2) (y : qt0) (x : qt5) (c : qt1) (h : Ju u s) (p : Int32) : wp9_letter r t m y x c u p ∧ wp10_letter s p ∧ fn9_letter r t m y x c u p = (fn10_letter s p).1 ∧ (fn10_letter s p).2 = hu_thrown s 0 := by
  obtain ⟨k, hk, hs, hT⟩ := h
  have hs' : hm_size (hu_thrown s 0) = Int32.ofNat k := hs
  by_cases hp : p < 0
  · obtain ⟨w1, w2⟩ := Tx.neg (t := u) (n := 1000) hp
    rw [fq9_letter, fq10_letter, if_pos hp]
    refine ⟨⟨w1, ?_⟩, ⟨fun _ => trivial, fun h => absurd hp h⟩, w2, rfl⟩
    rw [w2]
    rfl
  · obtain ⟨a, ha, rfl⟩ := q_of hp
    obtain ⟨w1, w2⟩ := Tx.at hT (n := 1000) hk (by omega) ha
    have e : hm_size (hu_thrown s 0) ≤ Int32.ofNat a ↔ k ≤ a := by rw [hs']; exact q_le (by omega) ha
    rw [fq9_letter, fq10_letter, if_neg hp, w2]
    by_cases hk2 : a < k
    · have ok := (hT.2 a hk2).2
      have e1 : hm_out (hu_thrown s 0) (Int32.ofNat a).toNatClampNeg = hm_out s a := by rw [q_cl ha]; rfl
      refine ⟨⟨w1, by rw [w2, if_pos hk2]; exact q_fit ok.b.1 ok.b.2⟩, ⟨fun h => absurd h hp, fun _ => ⟨fun _ => trivial, fun _ => ⟨q_inb (by omega) (by omega), by rw [e1]; exact q_fit ok.b.1 ok.b.2⟩⟩⟩, ?_, ?_⟩
      · rw [if_pos hk2, if_neg (by rw [e]; omega), e1]
      · rw [if_neg (by rw [e]; omega)]
    · refine ⟨⟨w1, by rw [w2, if_neg hk2]; rfl⟩, ⟨fun h => absurd h hp, fun _ => ⟨fun _ => trivial, fun h => absurd (e.mpr (by omega)) h⟩⟩, ?_, ?_⟩
      · rw [if_neg hk2, if_pos (e.mpr (by omega))]
      · rw [if_pos (e.mpr (by omega))]
/-- compiled, fault, holes -/
def Jh (y : qt0) (s : hs) : Prop := qg0_compiled y = hm_compiled s ∧ qg0_faultPlace y = hm_fault s ∧ (¬ hm_compiled s = 0 → ∃ k, k ≤ 80 ∧ qg0_holeCount y = Int32.ofNat k ∧ hm_holes s = Int32.ofNat k ∧ ∀ i, i < k → qg0_holeCodes y i = hm_contexts s i)
theorem m_fault {y : qt0} {s : hs} (r t : qt6) (m : qt2) (x : qt5) (c : qt1) (u : qt6) (h : Jh y s) : wp9_fault r t m y x c u ∧ wp10_fault s ∧ fn9_fault r t m y x c u = (fn10_fault s).1 ∧ (fn10_fault s).2 = hu_thrown s 0 := by
  rw [fq9_fault, fq10_fault]
  exact ⟨trivial, trivial, h.2.1, rfl⟩
theorem m_hole {y : qt0} {s : hs} (r t : qt6) (m : qt2) (x : qt5) (c : qt1) (u : qt6) (h : Jh y s) (p : Int32) : wp9_hole r t m y x c u p ∧ wp10_hole s p ∧ fn9_hole r t m y x c u p = (fn10_hole s p).1 ∧ (fn10_hole s p).2 = hu_thrown s 0 := by
  obtain ⟨h1, -, h3⟩ := h
  have hc : hm_compiled (hu_thrown s 0) = hm_compiled s := rfl
  rw [fq9_hole, fq0_holeCode, fq10_hole, h1, hc]
  by_cases h0 : hm_compiled s = 0
  · rw [if_pos h0, if_pos h0]
    exact ⟨⟨fun _ => trivial, fun h => absurd (h1.trans h0) h⟩, ⟨fun _ => trivial, fun h => absurd (hc.trans h0) h⟩, rfl, rfl⟩
  · rw [if_neg h0, if_neg h0]
    obtain ⟨k, hk, e1, e2, e3⟩ := h3 h0
    have e2' : hm_holes (hu_thrown s 0) = Int32.ofNat k := e2
    by_cases hp : p < 0
    · rw [if_pos hp, if_pos hp]
      exact ⟨⟨fun h => absurd (h1.symm.trans h) h0, fun _ => ⟨fun _ => trivial, fun h => absurd hp h⟩⟩, ⟨fun _ => trivial, fun _ => ⟨fun _ => trivial, fun h => absurd hp h⟩⟩, rfl, rfl⟩
    · obtain ⟨a, ha, rfl⟩ := q_of hp
      have e4 : Int32.ofNat k ≤ Int32.ofNat a ↔ k ≤ a := q_le (by omega) ha
      rw [if_neg hp, if_neg hp, e1, e2']
      by_cases hka : k ≤ a
      · rw [if_pos (e4.mpr hka), if_pos (e4.mpr hka)]
        refine ⟨⟨fun h => absurd (h1.symm.trans h) h0, fun _ => ⟨fun _ => trivial, fun _ => ⟨fun _ => trivial, fun h => absurd (by rw [e1]; exact e4.mpr hka) h⟩⟩⟩, ⟨fun _ => trivial, fun _ => ⟨fun _ => trivial, fun _ => ⟨fun _ => trivial, fun h => absurd (by rw [e2']; exact e4.mpr hka) h⟩⟩⟩, rfl, rfl⟩
      · have e5 : ¬ (240 : Int32) ≤ Int32.ofNat a := by
          have := q_le (a := 240) (b := a) (by omega) ha
          exact fun q => by have := this.mp q; omega
        rw [if_neg (fun q => hka (e4.mp q)), if_neg (fun q => hka (e4.mp q)), if_neg e5, q_cl ha]
        refine ⟨⟨fun h => absurd (h1.symm.trans h) h0, fun _ => ⟨fun _ => trivial, fun _ => ⟨fun _ => trivial, fun _ => ⟨fun _ => trivial, fun _ => q_inb (by omega) (by omega)⟩⟩⟩⟩, ⟨fun _ => trivial, fun _ => ⟨fun _ => trivial, fun _ => ⟨fun _ => trivial, fun _ => q_inb (by omega) (by omega)⟩⟩⟩, e3 a (by omega), rfl⟩
/-! add -/
theorem l_add9 {r : qt6} {k : Nat} {g : Nat → Int32} (hr : Tx r k g) (hk : k ≤ 40) (m : qt2) (y : qt0) (x : qt5) (c : qt1) (u : qt6) : ∀ (d i n : Nat) (t : qt6) (G : Nat → Int32) (fu : Nat), i + d = k → d < fu → Tx t (n + i) G → n + k ≤ 240 → wp9_add_c33 fu r t m y x c u (Int32.ofNat i) ∧ ∃ t', fn9_add_c33 fu r t m y x c u (Int32.ofNat i) = (Int32.ofNat (n + k), (fn6_empty 40 r).2, t', qu0_compiled y 0) ∧ Tx t' (n + k) (fill G n i k g) := by
  intro d
  induction d with
  | zero =>
    intro i n t G fu hi hf hT hn
    obtain ⟨fu, rfl⟩ : ∃ f, fu = f + 1 := ⟨fu - 1, by omega⟩
    have e : qg6_length r ≤ Int32.ofNat i := by rw [hr.1, q_le (by omega) (by omega)]; omega
    have hik : i = k := by omega
    subst hik
    refine ⟨⟨fun _ => trivial, fun h => absurd e h⟩, t, ?_, ?_⟩
    · unfold fn9_add_c33
      rw [if_pos e, hT.1]
    · rw [fill_done]
      exact hT
  | succ d ih =>
    intro i n t G fu hi hf hT hn
    obtain ⟨fu, rfl⟩ : ∃ f, fu = f + 1 := ⟨fu - 1, by omega⟩
    have e : ¬ qg6_length r ≤ Int32.ofNat i := by rw [hr.1, q_le (by omega) (by omega)]; omega
    obtain ⟨a1, a2⟩ := Tx.at hr (n := 40) (i := i) hk (by omega) (by omega)
    rw [if_pos (by omega)] at a2
    have ok := (hr.2 i (by omega)).2
    obtain ⟨p1, p2, p3⟩ := Tx.put hT (n := 240) (c := g i) (by omega) (by omega) ok
    obtain ⟨w, t', e1, e2⟩ := ih (i + 1) n (fn6_put 240 t (g i)).2 (upd G (n + i) (g i)) fu (by omega) (by omega) p3 hn
    refine ⟨⟨fun h => absurd h e, fun _ => ⟨a1, by rw [a2]; exact p1, by rw [a2, q_1]; exact w⟩⟩, t', ?_, ?_⟩
    · unfold fn9_add_c33
      rw [if_neg e, a2, q_1]
      exact e1
    · rw [fill_step G g (by omega)] at e2
      exact e2
theorem l_add10 {k n : Nat} (hk : k ≤ 40) (hn : n + k ≤ 240) : ∀ (d i : Nat) (s : hs) (fu : Nat), i + d = k → d < fu → hm_typed s = Int32.ofNat k → hm_length s = Int32.ofNat n → (∀ j, j < k → okc (hm_row s j)) → wp10_add_c35 fu s (Int32.ofNat i) ∧ fn10_add_c35 fu s (Int32.ofNat i) = (Int32.ofNat (n + k), hu_compiled (hu_typed (hu_length (hu_template s (fill (hm_template s) n i k (hm_row s))) (Int32.ofNat (n + k))) 0) 0) := by
  intro d
  induction d with
  | zero =>
    intro i s fu hi hf h1 h2 h3
    obtain ⟨fu, rfl⟩ : ∃ f, fu = f + 1 := ⟨fu - 1, by omega⟩
    have e : hm_typed s ≤ Int32.ofNat i := by rw [h1, q_le (by omega) (by omega)]; omega
    have hik : i = k := by omega
    subst hik
    refine ⟨⟨fun _ => trivial, fun h => absurd e h⟩, ?_⟩
    unfold fn10_add_c35
    rw [if_pos e, h1, h2, q_add, fill_done]
    rfl
  | succ d ih =>
    intro i s fu hi hf h1 h2 h3
    obtain ⟨fu, rfl⟩ : ∃ f, fu = f + 1 := ⟨fu - 1, by omega⟩
    have e : ¬ hm_typed s ≤ Int32.ofNat i := by rw [h1, q_le (by omega) (by omega)]; omega
    have ok := h3 i (by omega)
    obtain ⟨w, e1⟩ := ih (i + 1) (ha_template s (n + i) (hm_row s i)) fu (by omega) (by omega) h1 h2 h3
    have ea : ((Int32.ofNat n + Int32.ofNat i)).toNatClampNeg = n + i := by rw [q_add, q_cl (by omega)]
    refine ⟨⟨fun h => absurd h e, fun _ => ⟨q_inb (by omega) (by omega), by rw [h2, q_add]; exact q_inb (by omega) (by omega), ?_⟩⟩, ?_⟩
    · rw [h2, ea, q_cl (by omega), q_nar ok.b.1 ok.b.2, q_1]
      exact w
    · unfold fn10_add_c35
      rw [if_neg e, h2, ea, q_cl (by omega), q_nar ok.b.1 ok.b.2, q_1, e1]
      have e2 : fill (hm_template (ha_template s (n + i) (hm_row s i))) n (i + 1) k (hm_row (ha_template s (n + i) (hm_row s i))) = fill (hm_template s) n i k (hm_row s) := fill_step (hm_template s) (hm_row s) (by omega)
      rw [e2]
      rfl
theorem m_add {r t : qt6} {s : hs} (m : qt2) (y : qt0) (x : qt5) (c : qt1) (u : qt6) (hr : Jr r s) (ht : Jt t s) :
    (wp9_add r t m y x c u ∧ wp10_add s ∧ fn10_thrown (fn10_add s).2 = 0 ∧ (fn9_add r t m y x c u).1 = (fn10_add s).1 ∧ Jr (fn9_add r t m y x c u).2.1 (fn10_add s).2 ∧ Jt (fn9_add r t m y x c u).2.2.1 (fn10_add s).2 ∧ (fn9_add r t m y x c u).2.2.2 = qu0_compiled y 0 ∧ ∃ a b, (fn10_add s).2 = hu_compiled (hu_typed (hu_length (hu_template (hu_thrown s 0) a) b) 0) 0) ∨ (wt9_add_21 r t m y x c u ∧ wp10_add s ∧ fn10_thrown (fn10_add s).2 = 1 ∧ (fn10_add s).2 = hu_thrown s 1) := by
  obtain ⟨k, hk, hs, hT⟩ := hr
  obtain ⟨n, hn, hs2, hT2⟩ := ht
  have e1 : qg6_length t + qg6_length r ≤ 240 ↔ n + k ≤ 240 := by rw [hT.1, hT2.1, q_add]; exact q_le (b := 240) (by omega) (by omega)
  have e2 : hm_length s + hm_typed s ≤ 240 ↔ n + k ≤ 240 := by rw [hs, hs2, q_add]; exact q_le (b := 240) (by omega) (by omega)
  by_cases h : n + k ≤ 240
  · left
    obtain ⟨w9, t', f9, g9⟩ := l_add9 hT hk m y x c u k 0 n t (hm_template s) hg_fu (by omega) (by rw [hg_fu_eq]; omega) hT2 h
    obtain ⟨w10, f10⟩ := l_add10 (n := n) hk h k 0 (hu_thrown s 0) hg_fu (by omega) (by rw [hg_fu_eq]; omega) hs hs2 (fun j hj => (hT.2 j hj).2)
    have f9' : fn9_add r t m y x c u = (Int32.ofNat (n + k), (fn6_empty 40 r).2, t', qu0_compiled y 0) := by
      rw [fq9_add, if_pos (e1.mpr h)]
      exact f9
    have f10' : fn10_add s = (Int32.ofNat (n + k), hu_compiled (hu_typed (hu_length (hu_template (hu_thrown s 0) (fill (hm_template s) n 0 k (hm_row s))) (Int32.ofNat (n + k))) 0) 0) := by
      rw [fq10_add, if_pos (e2.mpr h), fn10_add_c24, if_pos (by show (0 : Int32) ≤ 0; decide)]
      exact f10
    rw [f9', f10', fq10_thrown]
    obtain ⟨-, -, w3, -⟩ := Tx.empty 40 r (hm_row s)
    exact ⟨⟨fun _ => w9, fun q => absurd (e1.mpr h) q⟩, ⟨fun _ => ⟨fun _ => w10, fun q => absurd (by show (0 : Int32) ≤ 0; decide) q⟩, fun q => absurd (e2.mpr h) q⟩, rfl, rfl, ⟨0, by omega, rfl, w3⟩, ⟨n + k, h, rfl, g9⟩, rfl, _, _, rfl⟩
  · right
    have f10' : fn10_add s = (0, hu_thrown s 1) := by
      rw [fq10_add, if_neg (fun q => h (e2.mp q)), fn10_add_c24, if_neg (by show ¬ (1 : Int32) ≤ 0; decide)]
    rw [f10', fq10_thrown]
    exact ⟨fun q => h (e1.mp q), ⟨fun q => absurd (e2.mp q) h, fun _ => ⟨fun q => absurd q (by show ¬ (1 : Int32) ≤ 0; decide), fun _ => trivial⟩⟩, rfl, rfl⟩
