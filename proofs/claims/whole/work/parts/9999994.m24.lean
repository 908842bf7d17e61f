/-! schemes of addresses, in both -/
def smv (c : Int32) : Int32 := if c < 65 then c else if 90 < c then c else c + 32
theorem sm_tab : ∀ a : Nat, a < 91 → 65 ≤ a → ((((Int32.ofNat a - (65 : Int32)) + (97 : Int32))).toUInt32 % 65536).toInt32 = Int32.ofNat a + 32 ∧ (((Int32.ofNat a + (32 : Int32))).toUInt32 % 65536).toInt32 = Int32.ofNat a + 32 ∧ am_fit .char (.inl (Int32.ofNat a + 32)) = true := by decide +kernel
theorem sm_of {c : Int32} (h1 : ¬ c < 65) (h2 : ¬ 90 < c) : ∃ a, a < 91 ∧ 65 ≤ a ∧ c = Int32.ofNat a := by
  have h0 : ¬ c < 0 := by grind
  obtain ⟨a, ha, rfl⟩ := q_of h0
  refine ⟨a, ?_, ?_, rfl⟩
  · have : ¬ 90 < a := fun q => h2 ((q_lt (a := 90) (by omega) ha).mpr q)
    omega
  · have : ¬ a < 65 := fun q => h1 ((q_lt (b := 65) ha (by omega)).mpr q)
    omega
theorem s4 {c : Int32} (h0 : 0 ≤ c) (h1 : c ≤ 65535) : wp4_small c ∧ fn4_small c = smv c := by
  have hf := q_fit h0 h1
  rw [fq4_small]
  unfold smv wp4_small
  by_cases k1 : c < 65
  · rw [if_pos k1, if_pos k1]
    exact ⟨⟨fun _ => hf, fun q => absurd k1 q⟩, rfl⟩
  · by_cases k2 : 90 < c
    · rw [if_neg k1, if_neg k1, if_pos k2, if_pos k2]
      exact ⟨⟨fun _ => hf, fun _ => ⟨fun _ => hf, fun q => absurd k2 q⟩⟩, rfl⟩
    · rw [if_neg k1, if_neg k1, if_neg k2, if_neg k2]
      obtain ⟨a, ha, ha', rfl⟩ := sm_of k1 k2
      obtain ⟨t1, t2, t3⟩ := sm_tab a ha ha'
      rw [t1]
      exact ⟨⟨fun _ => hf, fun _ => ⟨fun _ => hf, fun _ => t3⟩⟩, rfl⟩
theorem s10 (s : hs) {c : Int32} (h0 : 0 ≤ c) (h1 : c ≤ 65535) : wp10_small s c ∧ fn10_small s c = smv c := by
  have hf := q_fit h0 h1
  rw [fq10_small]
  unfold smv wp10_small
  by_cases k1 : c < 65
  · rw [if_pos k1, if_pos k1]
    exact ⟨⟨fun _ => hf, fun q => absurd k1 q⟩, rfl⟩
  · by_cases k2 : 90 < c
    · rw [if_neg k1, if_neg k1, if_pos k2, if_pos k2]
      exact ⟨⟨fun _ => hf, fun _ => ⟨fun _ => hf, fun q => absurd k2 q⟩⟩, rfl⟩
    · rw [if_neg k1, if_neg k1, if_neg k2, if_neg k2]
      obtain ⟨a, ha, ha', rfl⟩ := sm_of k1 k2
      obtain ⟨t1, t2, t3⟩ := sm_tab a ha ha'
      rw [t2]
      exact ⟨⟨fun _ => hf, fun _ => ⟨fun _ => hf, fun _ => t3⟩⟩, rfl⟩
theorem l_bg0 (m : qt2) (q v2 v5 : Int32) (k fu : Nat) : wp2_begins_c18 (fu + 1) m q v2 k 0 v5 ∧ fn2_begins_c18 (fu + 1) m q v2 k 0 v5 = 0 := by
  refine ⟨⟨fun _ => bfit0, fun _ => ⟨fun _ => bfit0, fun w => absurd rfl w⟩⟩, ?_⟩
  unfold fn2_begins_c18
  rw [if_pos rfl]
  exact ite_self _
theorem l_bg {m : qt2} {s : hs} {q : Int32} {n : Nat} {g : Nat → Int32} (h : IT m s q n g) {k w : Nat} (hk' : k < 37) (hw : w = hg_ln.getD k 0) (hwn : w ≤ n) : ∀ (d j fu : Nat), j + d = w → d + 1 < fu → wp2_begins_c18 fu m q (Int32.ofNat w) k 1 (Int32.ofNat j) ∧ (fn2_begins_c18 fu m q (Int32.ofNat w) k 1 (Int32.ofNat j) = 0 ↔ ¬ ∀ i, j ≤ i → i < w → smv (g i) = hg_by k i) := by
  have hn := h.1
  intro d
  induction d with
  | zero =>
    intro j fu hj hf
    obtain ⟨fu, rfl⟩ : ∃ f, fu = f + 1 := ⟨fu - 1, by omega⟩
    have e : Int32.ofNat w ≤ Int32.ofNat j := (q_le (by omega) (by omega)).mpr (by omega)
    refine ⟨⟨fun _ => bfit1, fun q => absurd e q⟩, ?_⟩
    unfold fn2_begins_c18
    rw [if_pos e]
    exact ⟨fun q => absurd q (by decide), fun q => absurd (fun i h1 h2 => by omega) q⟩
  | succ d ih =>
    intro j fu hj hf
    obtain ⟨fu, rfl⟩ : ∃ f, fu = f + 1 := ⟨fu - 1, by omega⟩
    obtain ⟨fu, rfl⟩ : ∃ f, fu = f + 1 := ⟨fu - 1, by omega⟩
    have e : ¬ Int32.ofNat w ≤ Int32.ofNat j := by rw [q_le (by omega) (by omega)]; omega
    obtain ⟨wa, ea⟩ := h.lt (i := j) (by omega)
    have ok := h.2.1 j (by omega)
    obtain ⟨ws, es⟩ := s4 ok.b.1 ok.b.2
    have ec := j_at hk' (show j < hg_ln.getD k 0 by omega)
    have wc := j_wat hk' (show j < hg_ln.getD k 0 by omega)
    obtain ⟨r1, r2⟩ := ih (j + 1) (fu + 1) (by omega) (by omega)
    obtain ⟨z1, z2⟩ := l_bg0 m q (Int32.ofNat w) (Int32.ofNat (j + 1)) k fu
    constructor
    · refine ⟨fun w => absurd w e, fun _ => ⟨fun w => absurd w (by decide), fun _ => ⟨wa, by rw [ea]; exact ws, wc, fun _ => ?_, fun _ => ?_⟩⟩⟩
      · rw [q_1]; exact r1
      · rw [q_1]; exact z1
    · conv => lhs; lhs; unfold fn2_begins_c18
      rw [if_neg e, if_neg (by decide), ea, es, ec, q_1]
      by_cases hc : smv (g j) = hg_by k j
      · rw [if_pos hc, r2]
        refine not_congr ⟨fun w i h1 h2 => ?_, fun w i h1 h2 => w i (by omega) h2⟩
        by_cases hij : i = j
        · rw [hij]; exact hc
        · exact w i (by omega) h2
      · rw [if_neg hc, z2]
        exact ⟨fun _ w => hc (w j (by omega) (by omega)), fun _ => rfl⟩
theorem bg {m : qt2} {s : hs} {q : Int32} {n : Nat} {g : Nat → Int32} (h : IT m s q n g) {k w : Nat} (hk' : k < 37) (hwn : w ≤ n) : wp2_begins m q (Int32.ofNat w) k ∧ (fn2_begins m q (Int32.ofNat w) k = 0 ↔ ¬ (w = hg_ln.getD k 0 ∧ ∀ i, i < hg_ln.getD k 0 → smv (g i) = hg_by k i)) := by
  have hl := @j_ln k
  have hn := h.1
  have e : Int32.ofNat w = fnJ_length k ↔ w = hg_ln.getD k 0 := by rw [j_len hk', q_eq (by omega) (by omega)]
  have hfu : hg_fu = 999 + 1 := hg_fu_eq
  obtain ⟨z1, z2⟩ := l_bg0 m q (Int32.ofNat w) 0 k 999
  rw [← hfu] at z1 z2
  by_cases hw : w = hg_ln.getD k 0
  · obtain ⟨r1, r2⟩ := l_bg h hk' hw hwn w 0 hg_fu (by omega) (by rw [hg_fu_eq]; omega)
    refine ⟨⟨j_wlen hk', fun _ => r1, fun q => absurd (e.mpr hw) q⟩, ?_⟩
    rw [fq2_begins, if_pos (e.mpr hw)]
    refine Iff.trans r2 (not_congr ⟨fun q => ⟨hw, fun i hi => q i (by omega) (by omega)⟩, fun q i _ hi => q.2 i (by omega)⟩)
  · refine ⟨⟨j_wlen hk', fun q => absurd (e.mp q) hw, fun _ => z1⟩, ?_⟩
    rw [fq2_begins, if_neg (fun q => hw (e.mp q))]
    exact ⟨fun _ q => hw q.1, fun _ => z2⟩
/-- a scheme that may stay -/
def sfe (g : Nat → Int32) (w : Nat) : Prop := (w = 4 ∧ smv (g 0) = 104 ∧ smv (g 1) = 116 ∧ smv (g 2) = 116 ∧ smv (g 3) = 112) ∨ (w = 5 ∧ smv (g 0) = 104 ∧ smv (g 1) = 116 ∧ smv (g 2) = 116 ∧ smv (g 3) = 112 ∧ smv (g 4) = 115) ∨ (w = 6 ∧ smv (g 0) = 109 ∧ smv (g 1) = 97 ∧ smv (g 2) = 105 ∧ smv (g 3) = 108 ∧ smv (g 4) = 116 ∧ smv (g 5) = 111)
theorem bg23 {m : qt2} {s : hs} {q : Int32} {n : Nat} {g : Nat → Int32} (h : IT m s q n g) {w : Nat} (hwn : w ≤ n) : fn2_begins m q (Int32.ofNat w) 23 = 0 ↔ ¬ (w = 4 ∧ smv (g 0) = 104 ∧ smv (g 1) = 116 ∧ smv (g 2) = 116 ∧ smv (g 3) = 112) := by
  refine (bg h (show 23 < 37 by omega) hwn).2.trans (not_congr (and_congr_right (fun _ => ⟨fun q => ⟨q 0 (by decide), q 1 (by decide), q 2 (by decide), q 3 (by decide)⟩, fun q i hi => ?_⟩)))
  obtain ⟨q0, q1, q2, q3⟩ := q
  match i, hi with
  | 0, _ => exact q0
  | 1, _ => exact q1
  | 2, _ => exact q2
  | 3, _ => exact q3
theorem bg24 {m : qt2} {s : hs} {q : Int32} {n : Nat} {g : Nat → Int32} (h : IT m s q n g) {w : Nat} (hwn : w ≤ n) : fn2_begins m q (Int32.ofNat w) 24 = 0 ↔ ¬ (w = 5 ∧ smv (g 0) = 104 ∧ smv (g 1) = 116 ∧ smv (g 2) = 116 ∧ smv (g 3) = 112 ∧ smv (g 4) = 115) := by
  refine (bg h (show 24 < 37 by omega) hwn).2.trans (not_congr (and_congr_right (fun _ => ⟨fun q => ⟨q 0 (by decide), q 1 (by decide), q 2 (by decide), q 3 (by decide), q 4 (by decide)⟩, fun q i hi => ?_⟩)))
  obtain ⟨q0, q1, q2, q3, q4⟩ := q
  match i, hi with
  | 0, _ => exact q0
  | 1, _ => exact q1
  | 2, _ => exact q2
  | 3, _ => exact q3
  | 4, _ => exact q4
theorem bg25 {m : qt2} {s : hs} {q : Int32} {n : Nat} {g : Nat → Int32} (h : IT m s q n g) {w : Nat} (hwn : w ≤ n) : fn2_begins m q (Int32.ofNat w) 25 = 0 ↔ ¬ (w = 6 ∧ smv (g 0) = 109 ∧ smv (g 1) = 97 ∧ smv (g 2) = 105 ∧ smv (g 3) = 108 ∧ smv (g 4) = 116 ∧ smv (g 5) = 111) := by
  refine (bg h (show 25 < 37 by omega) hwn).2.trans (not_congr (and_congr_right (fun _ => ⟨fun q => ⟨q 0 (by decide), q 1 (by decide), q 2 (by decide), q 3 (by decide), q 4 (by decide), q 5 (by decide)⟩, fun q i hi => ?_⟩)))
  obtain ⟨q0, q1, q2, q3, q4, q5⟩ := q
  match i, hi with
  | 0, _ => exact q0
  | 1, _ => exact q1
  | 2, _ => exact q2
  | 3, _ => exact q3
  | 4, _ => exact q4
  | 5, _ => exact q5
/-- the class's decision at a place -/
theorem fs31 {m : qt2} {s : hs} {q : Int32} {n : Nat} {g : Nat → Int32} (h : IT m s q n g) {w : Nat} (hwn : w ≤ n) : wp7_hasForeignScheme_c31 m q (Int32.ofNat w) ∧ (fn7_hasForeignScheme_c31 m q (Int32.ofNat w) = 0 ↔ ¬ (w < n ∧ g w = 58 ∧ ¬ sfe g w)) := by
  have hn := h.1
  obtain ⟨wa, ea⟩ := h.at (i := w) (by omega)
  have b1 := bg23 h hwn
  have b2 := bg24 h hwn
  have b3 := bg25 h hwn
  refine ⟨⟨wa, fun _ => ⟨(bg h (by omega) hwn).1, fun _ => ⟨(bg h (by omega) hwn).1, fun _ => ⟨(bg h (by omega) hwn).1, fun _ => trivial, fun _ => trivial⟩, fun _ => trivial⟩, fun _ => trivial⟩, fun _ => trivial⟩, ?_⟩
  have e1 : fn7_hasForeignScheme_c77 m = 0 := by
    unfold fn7_hasForeignScheme_c77 fn7_hasForeignScheme_c82
    rw [if_neg (by decide)]
  have e0 : fn7_hasForeignScheme_c82 m 0 = 1 := by
    unfold fn7_hasForeignScheme_c82
    rw [if_pos rfl]
  rw [fn7_hasForeignScheme_c31, ea, e1, e0]
  by_cases hw : w < n
  · rw [if_pos hw]
    by_cases h58 : g w = 58
    · rw [if_pos h58]
      by_cases k1 : fn2_begins m q (Int32.ofNat w) 23 = 0
      · rw [if_pos k1]
        by_cases k2 : fn2_begins m q (Int32.ofNat w) 24 = 0
        · rw [if_pos k2]
          by_cases k3 : fn2_begins m q (Int32.ofNat w) 25 = 0
          · rw [if_pos k3]
            refine ⟨fun w => absurd w (by decide), fun w => absurd ⟨hw, h58, fun z => ?_⟩ w⟩
            rcases z with z | z | z
            · exact b1.mp k1 z
            · exact b2.mp k2 z
            · exact b3.mp k3 z
          · rw [if_neg k3]
            refine ⟨fun _ z => z.2.2 (Or.inr (Or.inr ?_)), fun _ => rfl⟩
            exact Classical.byContradiction fun z => k3 (b3.mpr z)
        · rw [if_neg k2]
          refine ⟨fun _ z => z.2.2 (Or.inr (Or.inl ?_)), fun _ => rfl⟩
          exact Classical.byContradiction fun z => k2 (b2.mpr z)
      · rw [if_neg k1]
        refine ⟨fun _ z => z.2.2 (Or.inl ?_), fun _ => rfl⟩
        exact Classical.byContradiction fun z => k1 (b1.mpr z)
    · rw [if_neg h58]
      exact ⟨fun _ z => h58 z.2.1, fun _ => rfl⟩
  · rw [if_neg hw, if_neg (by decide)]
    exact ⟨fun _ z => hw z.1, fun _ => rfl⟩
/-- an address that is off: from place i on -/
def foff (g : Nat → Int32) (n i : Nat) : Prop := ∃ k, i ≤ k ∧ k < n ∧ (∀ j, i ≤ j → j < k → ¬ st5 (g j)) ∧ g k = 58 ∧ ¬ sfe g k
theorem foff_z {g : Nat → Int32} {n : Nat} : ¬ foff g n n := fun ⟨k, h1, h2, _⟩ => by omega
theorem foff_hit {g : Nat → Int32} {n i : Nat} (hi : i < n) (h : st5 (g i)) : foff g n i ↔ (i < n ∧ g i = 58 ∧ ¬ sfe g i) := by
  constructor
  · intro ⟨k, h1, h2, h3, h4, h5⟩
    by_cases hk : k = i
    · subst hk; exact ⟨h2, h4, h5⟩
    · exact absurd h (h3 i (by omega) (by omega))
  · intro ⟨h1, h2, h3⟩
    exact ⟨i, by omega, h1, fun j a b => by omega, h2, h3⟩
theorem foff_go {g : Nat → Int32} {n i : Nat} (h : ¬ st5 (g i)) : foff g n i ↔ foff g n (i + 1) := by
  constructor
  · intro ⟨k, h1, h2, h3, h4, h5⟩
    have hk : k ≠ i := fun q => by
      subst q
      rw [h4] at h
      exact h (by decide)
    exact ⟨k, by omega, h2, fun j a b => h3 j (by omega) b, h4, h5⟩
  · intro ⟨k, h1, h2, h3, h4, h5⟩
    refine ⟨k, by omega, h2, fun j a b => ?_, h4, h5⟩
    by_cases hj : j = i
    · rw [hj]; exact h
    · exact h3 j (by omega) b
theorem l_fs {m : qt2} {s : hs} {q : Int32} {n : Nat} {g : Nat → Int32} (h : IT m s q n g) : ∀ (d i fu : Nat), i + d = n → d < fu → wp7_hasForeignScheme_c2 fu m q (Int32.ofNat i) ∧ (fn7_hasForeignScheme_c2 fu m q (Int32.ofNat i) = 0 ↔ ¬ foff g n i) := by
  have hn := h.1
  obtain ⟨wl, el⟩ := h.len
  intro d
  induction d with
  | zero =>
    intro i fu hi hf
    obtain ⟨fu, rfl⟩ : ∃ f, fu = f + 1 := ⟨fu - 1, by omega⟩
    have e : fn2_length m q ≤ Int32.ofNat i := by rw [el]; exact (q_le (by omega) (by omega)).mpr (by omega)
    obtain ⟨w1, e1⟩ := fs31 h (w := i) (by omega)
    refine ⟨⟨wl, fun _ => w1, fun w => absurd e w⟩, ?_⟩
    unfold fn7_hasForeignScheme_c2
    rw [if_pos e, e1]
    have : i = n := by omega
    subst this
    exact ⟨fun _ => foff_z, fun _ w => by omega⟩
  | succ d ih =>
    intro i fu hi hf
    obtain ⟨fu, rfl⟩ : ∃ f, fu = f + 1 := ⟨fu - 1, by omega⟩
    have e : ¬ fn2_length m q ≤ Int32.ofNat i := by rw [el, q_le (by omega) (by omega)]; omega
    obtain ⟨wa, ea⟩ := h.lt (i := i) (by omega)
    have ok := h.2.1 i (by omega)
    obtain ⟨wx, ex⟩ := kx22 ok
    obtain ⟨w1, e1⟩ := fs31 h (w := i) (by omega)
    obtain ⟨r1, r2⟩ := ih (i + 1) fu (by omega) (by omega)
    have hx0 : 0 ≤ fnJ_indexOf 22 (g i) ↔ st5 (g i) := by
      constructor
      · intro w
        exact Classical.byContradiction fun z => absurd (ex.mpr z) (Int32.not_lt.mpr w)
      · intro w
        exact Int32.not_lt.mp (fun z => ex.mp z w)
    constructor
    · refine ⟨wl, fun w => absurd w e, fun _ => ⟨wa, ?_⟩⟩
      rw [ea, q_1]
      exact ⟨wx, fun _ => w1, fun _ => r1⟩
    · conv => lhs; lhs; unfold fn7_hasForeignScheme_c2
      rw [if_neg e, ea, q_1]
      by_cases h5 : st5 (g i)
      · rw [if_pos (hx0.mpr h5), e1, foff_hit (by omega) h5]
      · rw [if_neg (fun w => h5 (hx0.mp w)), r2, foff_go h5]
/-! the reference's -/
theorem IT.rf {m : qt2} {s : hs} {q : Int32} {n : Nat} {g : Nat → Int32} (h : IT m s q n g) (hq : 0 ≤ q) : am_inb q 32 = true ∧ hm_lengths s q.toNatClampNeg = Int32.ofNat n ∧ (∀ i, i < n → am_inb (40 * q + Int32.ofNat i) 1280 = true ∧ hm_items s (40 * q + Int32.ofNat i).toNatClampNeg = g i) ∧ ∀ i, i < 40 → am_inb (40 * q + Int32.ofNat i) 1280 = true := by
  obtain ⟨h1, h2, h3⟩ := h
  rcases h3 with ⟨rfl, rfl⟩ | ⟨a, ha, rfl, h4, h5, h6⟩
  · exact absurd hq (by decide)
  · have ea : ∀ i, 40 * Int32.ofNat a + Int32.ofNat i = Int32.ofNat (40 * a + i) := fun i => by
      rw [show (40 : Int32) = Int32.ofNat 40 from rfl, q_mul, q_add]
    refine ⟨q_inb ha (by omega), by rw [q_cl (by omega)]; exact h5, fun i hi => ?_, fun i hi => ?_⟩
    · rw [ea, q_cl (by omega)]
      exact ⟨q_inb (by omega) (by omega), (h6 i hi).2⟩
    · rw [ea]
      exact q_inb (by omega) (by omega)
def Jz (s : hs) : Prop := ∀ j, 0 ≤ hm_items s j ∧ hm_items s j ≤ 65535
theorem safe10 {m : qt2} {s : hs} {q : Int32} {n : Nat} {g : Nat → Int32} (h : IT m s q n g) (hq : 0 ≤ q) (hz : Jz s) {w : Nat} (hwn : w ≤ n) : wp10_isSafe s q (Int32.ofNat w) ∧ (fn10_isSafe s q (Int32.ofNat w) = 0 ↔ ¬ sfe g w) := by
  have hn := h.1
  obtain ⟨i1, i2, i3, i4⟩ := h.rf hq
  have ws : ∀ j, wp10_small s (hm_items s j) := fun j => (s10 s (hz j).1 (hz j).2).1
  have es : ∀ j, fn10_small s (hm_items s j) = smv (hm_items s j) := fun j => (s10 s (hz j).1 (hz j).2).2
  have a0 : am_inb (40 * q) 1280 = true := by
    have := i4 0 (by omega)
    rwa [show Int32.ofNat 0 = (0 : Int32) from rfl, Int32.add_zero] at this
  have a1 : am_inb (40 * q + 1) 1280 = true := i4 1 (by omega)
  have a2 : am_inb (40 * q + 2) 1280 = true := i4 2 (by omega)
  have a3 : am_inb (40 * q + 3) 1280 = true := i4 3 (by omega)
  have a4 : am_inb (40 * q + 4) 1280 = true := i4 4 (by omega)
  have a5 : am_inb (40 * q + 5) 1280 = true := i4 5 (by omega)
  have v0 : 0 < n → hm_items s (40 * q).toNatClampNeg = g 0 := fun w => by
    have := (i3 0 w).2
    rwa [show Int32.ofNat 0 = (0 : Int32) from rfl, Int32.add_zero] at this
  have v1 : 1 < n → hm_items s (40 * q + 1).toNatClampNeg = g 1 := fun w => (i3 1 w).2
  have v2 : 2 < n → hm_items s (40 * q + 2).toNatClampNeg = g 2 := fun w => (i3 2 w).2
  have v3 : 3 < n → hm_items s (40 * q + 3).toNatClampNeg = g 3 := fun w => (i3 3 w).2
  have v4 : 4 < n → hm_items s (40 * q + 4).toNatClampNeg = g 4 := fun w => (i3 4 w).2
  have v5 : 5 < n → hm_items s (40 * q + 5).toNatClampNeg = g 5 := fun w => (i3 5 w).2
  have n4 : Int32.ofNat w = 4 ↔ w = 4 := q_eq (b := 4) (by omega) (by omega)
  have n5 : Int32.ofNat w = 5 ↔ w = 5 := q_eq (b := 5) (by omega) (by omega)
  have n6 : Int32.ofNat w = 6 ↔ w = 6 := q_eq (b := 6) (by omega) (by omega)
  constructor
  · unfold wp10_isSafe wp10_isSafe_c17 wp10_isSafe_c31 wp10_isSafe_c45 wp10_isSafe_c59 wp10_isSafe_c73 wp10_isSafe_c118 wp10_isSafe_c122 wp10_isSafe_c123 wp10_isSafe_c187 wp10_isSafe_c188 wp10_isSafe_c200
    simp only [a0, a1, a2, a3, a4, a5, ws, implies_true, and_self]
  · rw [fq10_isSafe]
    unfold fn10_isSafe_c17 fn10_isSafe_c31 fn10_isSafe_c45 fn10_isSafe_c59 fn10_isSafe_c73 fn10_isSafe_c118 fn10_isSafe_c122 fn10_isSafe_c123 fn10_isSafe_c187 fn10_isSafe_c188 fn10_isSafe_c200 sfe
    simp only [es, n4, n5, n6, show ¬ (1 : Int32) = 0 by decide, if_true, if_false]
    clear ws es a0 a1 a2 a3 a4 a5 n4 n5 n6 i1 i2 i3 i4 hz h
    generalize hm_items s (40 * q).toNatClampNeg = b0 at *
    generalize hm_items s (40 * q + 1).toNatClampNeg = b1 at *
    generalize hm_items s (40 * q + 2).toNatClampNeg = b2 at *
    generalize hm_items s (40 * q + 3).toNatClampNeg = b3 at *
    generalize hm_items s (40 * q + 4).toNatClampNeg = b4 at *
    generalize hm_items s (40 * q + 5).toNatClampNeg = b5 at *
    by_cases w4 : w = 4
    · have := v0 (by omega); have := v1 (by omega); have := v2 (by omega); have := v3 (by omega)
      subst w4
      subst b0 b1 b2 b3
      simp only [show ¬ 4 = 5 by omega, show ¬ 4 = 6 by omega, false_and, or_false, true_and, if_true, if_false, ite_self]
      grind
    · by_cases w5 : w = 5
      · have := v0 (by omega); have := v1 (by omega); have := v2 (by omega); have := v3 (by omega); have := v4 (by omega)
        subst w5
        subst b0 b1 b2 b3 b4
        simp only [show ¬ 5 = 4 by omega, show ¬ 5 = 6 by omega, false_and, or_false, false_or, true_and, if_true, if_false, ite_self]
        grind
      · by_cases w6 : w = 6
        · have := v0 (by omega); have := v1 (by omega); have := v2 (by omega); have := v3 (by omega); have := v4 (by omega); have := v5 (by omega)
          subst w6
          subst b0 b1 b2 b3 b4 b5
          simp only [show ¬ 6 = 4 by omega, show ¬ 6 = 5 by omega, false_and, or_false, false_or, true_and, if_true, if_false, ite_self]
          grind
        · simp only [w4, w5, w6, false_and, or_false, if_false, ite_self, not_false_eq_true]
theorem l_off {m : qt2} {s : hs} {q : Int32} {n : Nat} {g : Nat → Int32} (h : IT m s q n g) (hq : 0 ≤ q) (hz : Jz s) : ∀ (d i fu : Nat), i + d = n → d < fu → wp10_isOff_c2 fu s q (Int32.ofNat i) ∧ (fn10_isOff_c2 fu s q (Int32.ofNat i) = 0 ↔ ¬ foff g n i) := by
  have hn := h.1
  obtain ⟨i1, i2, i3, i4⟩ := h.rf hq
  intro d
  induction d with
  | zero =>
    intro i fu hi hf
    obtain ⟨fu, rfl⟩ : ∃ f, fu = f + 1 := ⟨fu - 1, by omega⟩
    have e : hm_lengths s q.toNatClampNeg ≤ Int32.ofNat i := by rw [i2]; exact (q_le (by omega) (by omega)).mpr (by omega)
    refine ⟨⟨i1, fun _ => trivial, fun w => absurd e w⟩, ?_⟩
    unfold fn10_isOff_c2
    rw [if_pos e]
    have : i = n := by omega
    subst this
    exact ⟨fun _ => foff_z, fun _ => rfl⟩
  | succ d ih =>
    intro i fu hi hf
    obtain ⟨fu, rfl⟩ : ∃ f, fu = f + 1 := ⟨fu - 1, by omega⟩
    have e : ¬ hm_lengths s q.toNatClampNeg ≤ Int32.ofNat i := by rw [i2, q_le (by omega) (by omega)]; omega
    obtain ⟨w0, e0⟩ := i3 i (by omega)
    obtain ⟨w1, e1⟩ := safe10 h hq hz (w := i) (by omega)
    obtain ⟨r1, r2⟩ := ih (i + 1) fu (by omega) (by omega)
    constructor
    · refine ⟨i1, fun w => absurd w e, fun _ => ⟨w0, ?_⟩⟩
      rw [e0, q_1]
      exact ⟨fun _ => trivial, fun _ => ⟨fun _ => trivial, fun _ => ⟨fun _ => trivial, fun _ => ⟨fun _ => w1, fun _ => r1⟩⟩⟩⟩
    · conv => lhs; lhs; unfold fn10_isOff_c2
      rw [if_neg e, e0, q_1]
      by_cases k1 : g i = 47
      · rw [if_pos k1, foff_hit (by omega) (by rw [k1]; decide), k1]
        exact ⟨fun _ w => absurd w.2.1 (by decide), fun _ => rfl⟩
      rw [if_neg k1]
      by_cases k2 : g i = 63
      · rw [if_pos k2, foff_hit (by omega) (by rw [k2]; decide), k2]
        exact ⟨fun _ w => absurd w.2.1 (by decide), fun _ => rfl⟩
      rw [if_neg k2]
      by_cases k3 : g i = 35
      · rw [if_pos k3, foff_hit (by omega) (by rw [k3]; decide), k3]
        exact ⟨fun _ w => absurd w.2.1 (by decide), fun _ => rfl⟩
      rw [if_neg k3]
      by_cases k4 : g i = 58
      · rw [if_pos k4, foff_hit (by omega) (by rw [k4]; decide)]
        by_cases k5 : fn10_isSafe s q (Int32.ofNat i) = 0
        · rw [if_pos k5]
          exact ⟨fun w => absurd w (by decide), fun w => absurd ⟨by omega, k4, e1.mp k5⟩ w⟩
        · rw [if_neg k5]
          exact ⟨fun _ w => k5 (e1.mpr w.2.2), fun _ => rfl⟩
      rw [if_neg k4, r2, foff_go (i := i) (fun w => by
        simp only [List.mem_cons, List.not_mem_nil, or_false] at w
        rcases w with w | w | w | w
        · exact k4 w
        · exact k1 w
        · exact k2 w
        · exact k3 w)]
