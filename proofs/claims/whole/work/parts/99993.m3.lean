/-! forget, item -/
theorem v_is (m : qt2) (p : Int32) : fn2_isVariable m p = if 0 ≤ p ∧ p ≤ 7 then 1 else 0 := by
  rw [fq2_isVariable]
  grind
theorem v_of {p : Int32} (h : 0 ≤ p ∧ p ≤ 7) : ∃ v, v < 8 ∧ p = Int32.ofNat v := by
  obtain ⟨a, ha, rfl⟩ := q_of (x := p) (by grind)
  exact ⟨a, by have := (q_le (b := 7) ha (by omega)).mp h.2; omega, rfl⟩
theorem m_forget {m : qt2} {s : hs} (r t : qt6) (y : qt0) (x : qt5) (c : qt1) (u : qt6) (h : Jm m s) (p : Int32) :
    (wp9_forget r t m y x c u p ∧ wp10_forget s p ∧ fn10_thrown (fn10_forget s p).2 = 0 ∧ (fn9_forget r t m y x c u p).1 = (fn10_forget s p).1 ∧ Jm (fn9_forget r t m y x c u p).2 (fn10_forget s p).2 ∧ ∃ a, (fn10_forget s p).2 = hu_counts (hu_thrown s 0) a) ∨ (wt9_forget_11 r t m y x c u p ∧ wp10_forget s p ∧ fn10_thrown (fn10_forget s p).2 = 1 ∧ (fn10_forget s p).2 = hu_thrown s 1) := by
  by_cases hp : 0 ≤ p ∧ p ≤ 7
  · left
    obtain ⟨v, hv, rfl⟩ := v_of hp
    have hi := v_is m (Int32.ofNat v)
    rw [if_pos hp] at hi
    have hi0 : ¬ fn2_isVariable m (Int32.ofNat v) = 0 := by rw [hi]; decide
    obtain ⟨k, hk, h1, h2⟩ := h.1 v hv
    have hin : am_inb (Int32.ofNat v) 8 = true := q_inb hv (by omega)
    have n0 : ¬ Int32.ofNat v < 0 := q_pos (by omega)
    have e9 : fn9_forget r t m y x c u (Int32.ofNat v) = (Int32.ofNat k, qa2_counts m v 0) := by
      rw [fq9_forget, if_neg hi0, fq2_drop, if_neg hi0, fq2_count, if_neg hi0, q_cl (by omega), h1]
    have e10 : fn10_forget s (Int32.ofNat v) = (Int32.ofNat k, ha_counts (hu_thrown s 0) v 0) := by
      have : hm_counts (hu_thrown s 0) v = Int32.ofNat k := h2
      rw [fq10_forget, if_neg n0, if_pos hp.2, q_cl (by omega), this]
    rw [e9, e10, fq10_thrown]
    refine ⟨⟨trivial, fun q => absurd q hi0, fun _ => ⟨⟨trivial, fun _ => trivial, fun _ => hin⟩, trivial, fun _ => trivial, fun _ => hin⟩⟩, ⟨fun q => absurd q n0, fun _ => ⟨fun _ => ⟨hin, hin⟩, fun q => absurd hp.2 q⟩⟩, rfl, rfl, ⟨fun w hw => ?_, h.2.1, h.2.2⟩, _, rfl⟩
    by_cases hwv : w = v
    · subst hwv
      exact ⟨0, by omega, upd_at _ _ _, upd_at _ _ _⟩
    · obtain ⟨k2, g1, g2, g3⟩ := h.1 w hw
      exact ⟨k2, g1, (upd_ne hwv).trans g2, (upd_ne hwv).trans g3⟩
  · right
    have hi := v_is m p
    rw [if_neg hp] at hi
    have e10 : fn10_forget s p = (0, hu_thrown s 1) := by
      rw [fq10_forget]
      grind
    rw [e10, fq10_thrown]
    refine ⟨⟨trivial, hi⟩, ⟨fun _ => trivial, fun q => ⟨fun q2 => absurd ⟨by grind, q2⟩ hp, fun _ => trivial⟩⟩, rfl, rfl⟩
theorem l_keep {r : qt6} {k : Nat} {g : Nat → Int32} (hr : Tx r k g) (hk : k ≤ 40) {v q : Nat} (hv : v < 8) (hq : q < 32) : ∀ (d i : Nat) (m : qt2) (fu : Nat), i + d = k → d < fu → wp2_keep_c43 fu m r (Int32.ofNat v) (Int32.ofNat q) (Int32.ofNat i) ∧ fn2_keep_c43 fu m r (Int32.ofNat v) (Int32.ofNat q) (Int32.ofNat i) = (1, qa2_counts (qa2_lengths (qu2_chars m (fill (qg2_chars m) (q * 40) i k g)) q (Int32.ofNat k)) v (qg2_counts m v + 1)) := by
  intro d
  induction d with
  | zero =>
    intro i m fu hi hf
    obtain ⟨fu, rfl⟩ : ∃ f, fu = f + 1 := ⟨fu - 1, by omega⟩
    have e : qg6_length r ≤ Int32.ofNat i := by rw [hr.1, q_le (by omega) (by omega)]; omega
    have hik : i = k := by omega
    subst hik
    refine ⟨⟨fun _ => ⟨q_inb hq (by omega), q_inb hv (by omega), q_inb hv (by omega)⟩, fun h => absurd e h⟩, ?_⟩
    unfold fn2_keep_c43
    rw [if_pos e, fill_done, q_cl (by omega), q_cl (by omega), hr.1]
    rfl
  | succ d ih =>
    intro i m fu hi hf
    obtain ⟨fu, rfl⟩ : ∃ f, fu = f + 1 := ⟨fu - 1, by omega⟩
    have e : ¬ qg6_length r ≤ Int32.ofNat i := by rw [hr.1, q_le (by omega) (by omega)]; omega
    obtain ⟨a1, a2⟩ := Tx.at hr (n := 40) (i := i) hk (by omega) (by omega)
    rw [if_pos (by omega)] at a2
    have ok := (hr.2 i (by omega)).2
    have ea : Int32.ofNat q * 40 + Int32.ofNat i = Int32.ofNat (q * 40 + i) := by
      rw [show (40 : Int32) = Int32.ofNat 40 from rfl, q_mul, q_add]
    obtain ⟨w, e1⟩ := ih (i + 1) (qa2_chars m (q * 40 + i) (g i)) fu (by omega) (by omega)
    refine ⟨⟨fun h => absurd h e, fun _ => ⟨a1, by rw [ea]; exact q_inb (by omega) (by omega), ?_⟩⟩, ?_⟩
    · rw [ea, q_cl (by omega), a2, q_nar ok.b.1 ok.b.2, q_1]
      exact w
    · unfold fn2_keep_c43
      rw [if_neg e, ea, q_cl (by omega), a2, q_nar ok.b.1 ok.b.2, q_1, e1]
      have e2 : fill (qg2_chars (qa2_chars m (q * 40 + i) (g i))) (q * 40) (i + 1) k g = fill (qg2_chars m) (q * 40) i k g := fill_step (qg2_chars m) g (by omega)
      rw [e2]
      rfl
theorem l_item {k : Nat} (hk : k ≤ 40) {v q : Nat} (hv : v < 8) (hq : q < 32) : ∀ (d i : Nat) (s : hs) (fu : Nat), i + d = k → d < fu → hm_typed s = Int32.ofNat k → (∀ j, j < k → okc (hm_row s j)) → wp10_item_c73 fu s (Int32.ofNat v) (Int32.ofNat q) (Int32.ofNat i) ∧ fn10_item_c73 fu s (Int32.ofNat v) (Int32.ofNat q) (Int32.ofNat i) = (hm_counts s v + 1, ha_counts (hu_typed (hu_items s (fill (hm_items s) (40 * q) i k (hm_row s))) 0) v (hm_counts s v + 1)) := by
  intro d
  induction d with
  | zero =>
    intro i s fu hi hf h1 h3
    obtain ⟨fu, rfl⟩ : ∃ f, fu = f + 1 := ⟨fu - 1, by omega⟩
    have e : hm_typed s ≤ Int32.ofNat i := by rw [h1, q_le (by omega) (by omega)]; omega
    have hik : i = k := by omega
    subst hik
    have hin : am_inb (Int32.ofNat v) 8 = true := q_inb hv (by omega)
    refine ⟨⟨fun _ => ⟨hin, hin, hin⟩, fun h => absurd e h⟩, ?_⟩
    unfold fn10_item_c73 fn10_item_c109
    rw [if_pos e, fill_done, q_cl (by omega)]
    have e5 : hm_counts (ha_counts (hu_typed s 0) v (hm_counts (hu_typed s 0) v + 1)) v = hm_counts s v + 1 := upd_at _ _ _
    rw [e5]
    rfl
  | succ d ih =>
    intro i s fu hi hf h1 h3
    obtain ⟨fu, rfl⟩ : ∃ f, fu = f + 1 := ⟨fu - 1, by omega⟩
    have e : ¬ hm_typed s ≤ Int32.ofNat i := by rw [h1, q_le (by omega) (by omega)]; omega
    have ok := h3 i (by omega)
    have ea : 40 * Int32.ofNat q + Int32.ofNat i = Int32.ofNat (40 * q + i) := by
      rw [show (40 : Int32) = Int32.ofNat 40 from rfl, q_mul, q_add]
    have a1 : hm_typed (ha_items s (40 * q + i) (hm_row s i)) = Int32.ofNat k := by simp only [ha_items, hv_items]; exact h1
    have a2 : hm_row (ha_items s (40 * q + i) (hm_row s i)) = hm_row s := by simp only [ha_items, hv_items]
    have a3 : hm_items (ha_items s (40 * q + i) (hm_row s i)) = upd (hm_items s) (40 * q + i) (hm_row s i) := by simp only [ha_items, hv_items]
    have a4 : hm_counts (ha_items s (40 * q + i) (hm_row s i)) = hm_counts s := by simp only [ha_items, hv_items]
    obtain ⟨w, e1⟩ := ih (i + 1) (ha_items s (40 * q + i) (hm_row s i)) fu (by omega) (by omega) a1 (by rw [a2]; exact h3)
    refine ⟨⟨fun h => absurd h e, fun _ => ⟨q_inb (by omega) (by omega), by rw [ea]; exact q_inb (by omega) (by omega), ?_⟩⟩, ?_⟩
    · rw [ea, q_cl (by omega), q_cl (by omega), q_nar ok.b.1 ok.b.2, q_1]
      exact w
    · unfold fn10_item_c73
      rw [if_neg e, ea, q_cl (by omega), q_cl (by omega), q_nar ok.b.1 ok.b.2, q_1, e1]
      have e2 : fill (upd (hm_items s) (40 * q + i) (hm_row s i)) (40 * q) (i + 1) k (hm_row s) = fill (hm_items s) (40 * q) i k (hm_row s) := fill_step (hm_items s) (hm_row s) (by omega)
      have e3 : hu_items (ha_items s (40 * q + i) (hm_row s i)) (fill (hm_items s) (40 * q) i k (hm_row s)) = hu_items s (fill (hm_items s) (40 * q) i k (hm_row s)) := by simp only [ha_items, hu_items]
      rw [a2, a3, a4, e2, e3]
theorem m_item {r : qt6} {m : qt2} {s : hs} (t : qt6) (y : qt0) (x : qt5) (c : qt1) (u : qt6) (hr : Jr r s) (h : Jm m s) (p : Int32) :
    (wp9_item r t m y x c u p ∧ wp10_item s p ∧ fn10_thrown (fn10_item s p).2 = 0 ∧ (fn9_item r t m y x c u p).1 = (fn10_item s p).1 ∧ Jr (fn9_item r t m y x c u p).2.1 (fn10_item s p).2 ∧ Jm (fn9_item r t m y x c u p).2.2 (fn10_item s p).2 ∧ ∃ a b d, (fn10_item s p).2 = hu_counts (hu_typed (hu_items (hu_lengths (hu_thrown s 0) a) b) 0) d) ∨ (wt9_item_11 r t m y x c u p ∧ wp10_item s p ∧ fn10_thrown (fn10_item s p).2 = 1 ∧ (fn10_item s p).2 = hu_thrown s 1) ∨ (wt9_item_36 r t m y x c u p ∧ wp10_item s p ∧ fn10_thrown (fn10_item s p).2 = 2 ∧ (fn2_keep m r p).2 = m ∧ (fn10_item s p).2 = hu_thrown (hu_thrown s 0) 2) := by
  obtain ⟨k, hk, hs, hT⟩ := hr
  by_cases hp : 0 ≤ p ∧ p ≤ 7
  · obtain ⟨v, hv, rfl⟩ := v_of hp
    have hi := v_is m (Int32.ofNat v)
    rw [if_pos hp] at hi
    have hi0 : ¬ fn2_isVariable m (Int32.ofNat v) = 0 := by rw [hi]; decide
    obtain ⟨n, hn, h1, h2⟩ := h.1 v hv
    have hin : am_inb (Int32.ofNat v) 8 = true := q_inb hv (by omega)
    have n0 : ¬ Int32.ofNat v < 0 := q_pos (by omega)
    have c1 : qg2_counts m (Int32.ofNat v).toNatClampNeg = Int32.ofNat n := by rw [q_cl (by omega)]; exact h1
    have c2 : hm_counts (hu_thrown s 0) (Int32.ofNat v).toNatClampNeg = Int32.ofNat n := by rw [q_cl (by omega)]; exact h2
    have hle : (4 : Int32) ≤ Int32.ofNat n ↔ 4 ≤ n := q_le (a := 4) (by omega) (by omega)
    have heq : Int32.ofNat n = 4 ↔ n = 4 := q_eq (b := 4) (by omega) (by omega)
    have t0 : hm_thrown (hu_thrown s 0) = 0 := rfl
    by_cases hn4 : n = 4
    · right; right
      have e9 : fn2_keep m r (Int32.ofNat v) = (0, m) := by
        rw [fq2_keep, if_neg hi0, c1, if_pos (hle.mpr (by omega))]
      have e10 : fn10_item s (Int32.ofNat v) = (0, hu_thrown (hu_thrown s 0) 2) := by
        rw [fq10_item, if_neg n0, if_pos hp.2, fn10_item_c16, fn10_item_c19, if_pos t0, c2, if_pos (heq.mpr hn4), fn10_item_c41, if_neg (by show ¬ (2 : Int32) ≤ 0; decide)]
      rw [e10, e9, fq10_thrown]
      refine ⟨⟨trivial, hi0, ⟨trivial, fun q => absurd q hi0, fun _ => ⟨hin, fun _ => trivial, fun q => absurd (by rw [c1]; exact hle.mpr (by omega)) q⟩⟩, by rw [e9]⟩, ⟨fun q => absurd q n0, fun _ => ⟨fun _ => ⟨fun _ => ⟨hin, fun _ => ⟨fun q => absurd q (by show ¬ (2 : Int32) ≤ 0; decide), fun _ => trivial⟩, fun q => absurd (by rw [c2]; exact heq.mpr hn4) q⟩, fun q => absurd t0 q⟩, fun q => absurd hp.2 q⟩⟩, rfl, rfl, rfl⟩
    · left
      have hq : v * 4 + n < 32 := by omega
      have eq1 : Int32.ofNat v * 4 + Int32.ofNat n = Int32.ofNat (v * 4 + n) := by
        rw [show (4 : Int32) = Int32.ofNat 4 from rfl, q_mul, q_add]
      have eq2 : 4 * Int32.ofNat v + Int32.ofNat n = Int32.ofNat (v * 4 + n) := by
        rw [show (4 : Int32) = Int32.ofNat 4 from rfl, q_mul, q_add, Nat.mul_comm]
      have hl : qg6_length r ≤ 40 := by rw [hT.1]; exact (q_le (b := 40) (by omega) (by omega)).mpr hk
      obtain ⟨w9, f9⟩ := l_keep hT hk hv hq k 0 m hg_fu (by omega) (by rw [hg_fu_eq]; omega)
      have b1 : hm_typed (ha_lengths (hu_thrown s 0) (v * 4 + n) (Int32.ofNat k)) = Int32.ofNat k := by simp only [ha_lengths, hv_lengths, hv_thrown]; exact hs
      have b2 : hm_row (ha_lengths (hu_thrown s 0) (v * 4 + n) (Int32.ofNat k)) = hm_row s := by simp only [ha_lengths, hv_lengths, hv_thrown]
      have b3 : hm_items (ha_lengths (hu_thrown s 0) (v * 4 + n) (Int32.ofNat k)) = hm_items s := by simp only [ha_lengths, hv_lengths, hv_thrown]
      have b4 : hm_counts (ha_lengths (hu_thrown s 0) (v * 4 + n) (Int32.ofNat k)) = hm_counts s := by simp only [ha_lengths, hv_lengths, hv_thrown]
      obtain ⟨w10, f10⟩ := l_item hk hv hq k 0 (ha_lengths (hu_thrown s 0) (v * 4 + n) (Int32.ofNat k)) hg_fu (by omega) (by rw [hg_fu_eq]; omega) b1 (by rw [b2]; exact fun j hj => (hT.2 j hj).2)
      rw [b2, b3, b4, h2, q_1] at f10
      have hkp : fn2_keep m r (Int32.ofNat v) = (1, qa2_counts (qa2_lengths (qu2_chars m (fill (qg2_chars m) ((v * 4 + n) * 40) 0 k (hm_row s))) (v * 4 + n) (Int32.ofNat k)) v (Int32.ofNat (n + 1))) := by
        rw [fq2_keep, if_neg hi0, c1, if_neg (fun q => by have := hle.mp q; omega), if_pos hl, eq1]
        refine f9.trans ?_
        rw [h1, q_1]
      have e9 : fn9_item r t m y x c u (Int32.ofNat v) = (Int32.ofNat (n + 1), (fn6_empty 40 r).2, (fn2_keep m r (Int32.ofNat v)).2) := by
        rw [fq9_item, if_neg hi0, hkp, if_neg (by show ¬ (1 : Int32) = 0; decide), fq2_count, if_neg (by rw [v_is, if_pos hp]; decide), q_cl (by omega)]
        have e3 : qg2_counts (qa2_counts (qa2_lengths (qu2_chars m (fill (qg2_chars m) ((v * 4 + n) * 40) 0 k (hm_row s))) (v * 4 + n) (Int32.ofNat k)) v (Int32.ofNat (n + 1))) v = Int32.ofNat (n + 1) := upd_at _ _ _
        show (qg2_counts (qa2_counts (qa2_lengths (qu2_chars m (fill (qg2_chars m) ((v * 4 + n) * 40) 0 k (hm_row s))) (v * 4 + n) (Int32.ofNat k)) v (Int32.ofNat (n + 1))) v, _) = _
        rw [e3]
      have t9 : hm_typed (hu_thrown s 0) = Int32.ofNat k := hs
      have e10 : fn10_item s (Int32.ofNat v) = (Int32.ofNat (n + 1), ha_counts (hu_typed (hu_items (ha_lengths (hu_thrown s 0) (v * 4 + n) (Int32.ofNat k)) (fill (hm_items s) (40 * (v * 4 + n)) 0 k (hm_row s))) 0) v (Int32.ofNat (n + 1))) := by
        rw [fq10_item, if_neg n0, if_pos hp.2, fn10_item_c16, fn10_item_c19, if_pos t0, c2, if_neg (fun q => hn4 (heq.mp q)), fn10_item_c41, if_pos (by show (0 : Int32) ≤ 0; decide), c2, eq2, q_cl (by omega), t9, fn10_item_c71]
        exact f10
      obtain ⟨-, -, w3, -⟩ := Tx.empty 40 r (hm_row s)
      have wk : wp2_keep m r (Int32.ofNat v) := ⟨trivial, fun q => absurd q hi0, fun _ => ⟨hin, fun q => absurd (hle.mp (by rw [c1] at q; exact q)) (by omega), fun _ => ⟨fun _ => ⟨hin, by rw [c1, eq1]; exact w9⟩, fun q => absurd hl q⟩⟩⟩
      rw [e10, e9, fq10_thrown]
      refine ⟨⟨trivial, fun q => absurd q hi0, fun _ => ⟨wk, fun q => absurd q (by rw [hkp]; show ¬ (1 : Int32) = 0; decide), fun _ => ⟨trivial, trivial, fun _ => trivial, fun _ => hin⟩⟩⟩, ⟨fun q => absurd q n0, fun _ => ⟨fun _ => ⟨fun _ => ⟨hin, fun q => absurd (heq.mp (by rw [c2] at q; exact q)) hn4, fun _ => ⟨fun _ => ⟨hin, by rw [c2, eq2]; exact q_inb hq (by omega), ?_⟩, fun q => absurd (by show (0 : Int32) ≤ 0; decide) q⟩⟩, fun q => absurd t0 q⟩, fun q => absurd hp.2 q⟩⟩, rfl, rfl, ⟨0, by omega, rfl, w3⟩, ?_, _, _, _, rfl⟩
      · rw [c2, eq2, q_cl (by omega), t9]
        exact w10
      · rw [hkp]
        refine ⟨fun w hw => ?_, fun q hq2 => ?_, h.2.2⟩
        · by_cases hwv : w = v
          · subst hwv
            exact ⟨n + 1, by omega, upd_at _ _ _, upd_at _ _ _⟩
          · obtain ⟨k2, g1, g2, g3⟩ := h.1 w hw
            exact ⟨k2, g1, (upd_ne hwv).trans g2, (upd_ne hwv).trans g3⟩
        · by_cases hqe : q = v * 4 + n
          · subst hqe
            refine ⟨k, hk, upd_at _ _ _, upd_at _ _ _, fun i hi => ?_⟩
            have a1 : fill (qg2_chars m) ((v * 4 + n) * 40) 0 k (hm_row s) ((v * 4 + n) * 40 + i) = hm_row s i := fill_in (Nat.zero_le _) hi
            have a2 : fill (hm_items s) (40 * (v * 4 + n)) 0 k (hm_row s) (40 * (v * 4 + n) + i) = hm_row s i := fill_in (Nat.zero_le _) hi
            show fill (qg2_chars m) ((v * 4 + n) * 40) 0 k (hm_row s) ((v * 4 + n) * 40 + i) = fill (hm_items s) (40 * (v * 4 + n)) 0 k (hm_row s) (40 * (v * 4 + n) + i) ∧ okc (fill (hm_items s) (40 * (v * 4 + n)) 0 k (hm_row s) (40 * (v * 4 + n) + i))
            rw [a1, a2]
            exact ⟨rfl, (hT.2 i hi).2⟩
          · obtain ⟨k2, g1, g2, g3, g4⟩ := h.2.1 q hq2
            refine ⟨k2, g1, (upd_ne hqe).trans g2, (upd_ne hqe).trans g3, fun i hi => ?_⟩
            have a1 : fill (qg2_chars m) ((v * 4 + n) * 40) 0 k (hm_row s) (q * 40 + i) = qg2_chars m (q * 40 + i) := fill_out (by omega)
            have a2 : fill (hm_items s) (40 * (v * 4 + n)) 0 k (hm_row s) (40 * q + i) = hm_items s (40 * q + i) := fill_out (by omega)
            show fill (qg2_chars m) ((v * 4 + n) * 40) 0 k (hm_row s) (q * 40 + i) = fill (hm_items s) (40 * (v * 4 + n)) 0 k (hm_row s) (40 * q + i) ∧ okc (fill (hm_items s) (40 * (v * 4 + n)) 0 k (hm_row s) (40 * q + i))
            rw [a1, a2]
            exact g4 i hi
  · right; left
    have hi := v_is m p
    rw [if_neg hp] at hi
    have t1 : ¬ hm_thrown (hu_thrown s 1) = 0 := by show ¬ (1 : Int32) = 0; decide
    have t2 : ¬ hm_thrown (hu_thrown s 1) ≤ 0 := by show ¬ (1 : Int32) ≤ 0; decide
    have e11 : fn10_item_c11 s p = (0, hu_thrown s 1) := by
      rw [fn10_item_c11, fn10_item_c16, fn10_item_c19, if_neg t1, fn10_item_c41, if_neg t2]
    have w11 : wp10_item_c11 s p := ⟨fun q => absurd q t1, fun _ => ⟨fun q => absurd q t2, fun _ => trivial⟩⟩
    have e10 : fn10_item s p = (0, hu_thrown s 1) := by
      rw [fq10_item, e11]
      grind
    rw [e10, fq10_thrown]
    refine ⟨⟨trivial, hi⟩, ⟨fun _ => w11, fun q => ⟨fun q2 => absurd ⟨by grind, q2⟩ hp, fun _ => w11⟩⟩, rfl, rfl⟩
