/-! words of styles, in both -/
def swd (g : Nat → Int32) (n i : Nat) : Prop := ∀ j, i ≤ j → j < n → st4 (g j)
theorem swd_step {g : Nat → Int32} {n i : Nat} (h : st4 (g i)) : swd g n (i + 1) ↔ swd g n i := by
  constructor
  · intro q j h1 h2
    by_cases hj : j = i
    · rw [hj]; exact h
    · exact q j (by omega) h2
  · intro q j h1 h2
    exact q j (by omega) h2
theorem l_sw0 {m : qt2} {s : hs} {q : Int32} {n : Nat} {g : Nat → Int32} (h : IT m s q n g) (v : Int32) (fu : Nat) : wp7_isStyleWord_c16 (fu + 1) m q 0 v ∧ fn7_isStyleWord_c16 (fu + 1) m q 0 v = 0 := by
  refine ⟨⟨h.len.1, fun _ => bfit0, fun _ => ⟨fun _ => bfit0, fun w => absurd rfl w⟩⟩, ?_⟩
  unfold fn7_isStyleWord_c16
  rw [if_pos rfl]
  exact ite_self _
theorem l_sw {m : qt2} {s : hs} {q : Int32} {n : Nat} {g : Nat → Int32} (h : IT m s q n g) : ∀ (d i fu : Nat), i + d = n → d + 1 < fu → wp7_isStyleWord_c16 fu m q 1 (Int32.ofNat i) ∧ (fn7_isStyleWord_c16 fu m q 1 (Int32.ofNat i) = 0 ↔ ¬ swd g n i) := by
  have hn := h.1
  obtain ⟨wl, el⟩ := h.len
  intro d
  induction d with
  | zero =>
    intro i fu hi hf
    obtain ⟨fu, rfl⟩ : ∃ f, fu = f + 1 := ⟨fu - 1, by omega⟩
    have e : fn2_length m q ≤ Int32.ofNat i := by rw [el]; exact (q_le (by omega) (by omega)).mpr (by omega)
    refine ⟨⟨wl, fun _ => bfit1, fun w => absurd e w⟩, ?_⟩
    unfold fn7_isStyleWord_c16
    rw [if_pos e]
    exact ⟨fun q => absurd q (by decide), fun q => absurd (fun j h1 h2 => by omega) q⟩
  | succ d ih =>
    intro i fu hi hf
    obtain ⟨fu, rfl⟩ : ∃ f, fu = f + 1 := ⟨fu - 1, by omega⟩
    obtain ⟨fu, rfl⟩ : ∃ f, fu = f + 1 := ⟨fu - 1, by omega⟩
    have e : ¬ fn2_length m q ≤ Int32.ofNat i := by rw [el, q_le (by omega) (by omega)]; omega
    obtain ⟨wa, ea⟩ := h.lt (i := i) (by omega)
    have ok := h.2.1 i (by omega)
    obtain ⟨wx, ex⟩ := kx34 ok
    have hw := iw4 (g i)
    obtain ⟨r1, r2⟩ := ih (i + 1) (fu + 1) (by omega) (by omega)
    obtain ⟨z1, z2⟩ := l_sw0 h (Int32.ofNat (i + 1)) fu
    constructor
    · refine ⟨wl, fun w => absurd w e, fun _ => ⟨fun w => absurd w (by decide), fun _ => ⟨wa, ?_⟩⟩⟩
      rw [ea, q_1]
      exact ⟨ww4 _, fun _ => ⟨wx, fun _ => z1, fun _ => r1⟩, fun _ => r1⟩
    · conv => lhs; lhs; unfold fn7_isStyleWord_c16
      rw [if_neg e, if_neg (by decide), ea, q_1]
      by_cases h1 : wd (g i)
      · rw [if_neg (fun w => hw.mp w h1), r2, swd_step (Or.inl h1)]
      rw [if_pos (hw.mpr h1)]
      by_cases h2 : g i ∈ ([45, 46, 37, 35] : List Int32)
      · rw [if_neg (fun w => ex.mp w h2), r2, swd_step (Or.inr h2)]
      · rw [if_pos (ex.mpr h2), z2]
        refine ⟨fun _ w => ?_, fun _ => rfl⟩
        rcases w i (by omega) (by omega) with w | w
        · exact h1 w
        · exact h2 w
theorem sw7 {m : qt2} {s : hs} {q : Int32} {n : Nat} {g : Nat → Int32} (h : IT m s q n g) : wp7_isStyleWord m q ∧ (fn7_isStyleWord m q = 0 ↔ ¬ (0 < n ∧ swd g n 0)) := by
  have hn := h.1
  obtain ⟨wl, el⟩ := h.len
  have hfu : hg_fu = 999 + 1 := hg_fu_eq
  obtain ⟨z1, z2⟩ := l_sw0 h 0 999
  rw [← hfu] at z1 z2
  obtain ⟨r1, r2⟩ := l_sw h n 0 hg_fu (by omega) (by rw [hg_fu_eq]; omega)
  have e : fn2_length m q ≤ 0 ↔ n ≤ 0 := by rw [el]; exact q_le (b := 0) (by omega) (by omega)
  refine ⟨⟨wl, fun _ => z1, fun _ => r1⟩, ?_⟩
  rw [fq7_isStyleWord]
  by_cases h0 : n ≤ 0
  · rw [if_pos (e.mpr h0), z2]
    exact ⟨fun _ w => by omega, fun _ => rfl⟩
  · rw [if_neg (fun w => h0 (e.mp w))]
    exact r2.trans (not_congr ⟨fun w => ⟨by omega, w⟩, fun w => w.2⟩)
theorem l_ru0 (s : hs) (q v : Int32) (fu : Nat) : wp10_isRule_c21 (fu + 1) s q 0 v ∧ fn10_isRule_c21 (fu + 1) s q 0 v = 0 := by
  refine ⟨⟨fun _ => bfit0, fun w => absurd rfl w⟩, ?_⟩
  unfold fn10_isRule_c21
  rw [if_pos rfl]
theorem l_ru {m : qt2} {s : hs} {q : Int32} {n : Nat} {g : Nat → Int32} (h : IT m s q n g) (hq : 0 ≤ q) : ∀ (d i fu : Nat), i + d = n → d + 1 < fu → wp10_isRule_c21 fu s q 1 (Int32.ofNat i) ∧ (fn10_isRule_c21 fu s q 1 (Int32.ofNat i) = 0 ↔ ¬ swd g n i) := by
  have hn := h.1
  obtain ⟨i1, i2, i3, i4⟩ := h.rf hq
  intro d
  induction d with
  | zero =>
    intro i fu hi hf
    obtain ⟨fu, rfl⟩ : ∃ f, fu = f + 1 := ⟨fu - 1, by omega⟩
    have e : hm_lengths s q.toNatClampNeg ≤ Int32.ofNat i := by rw [i2]; exact (q_le (by omega) (by omega)).mpr (by omega)
    refine ⟨⟨fun w => absurd w (by decide), fun _ => ⟨i1, fun _ => bfit1, fun w => absurd e w⟩⟩, ?_⟩
    unfold fn10_isRule_c21
    rw [if_neg (by decide), if_pos e]
    exact ⟨fun q => absurd q (by decide), fun q => absurd (fun j h1 h2 => by omega) q⟩
  | succ d ih =>
    intro i fu hi hf
    obtain ⟨fu, rfl⟩ : ∃ f, fu = f + 1 := ⟨fu - 1, by omega⟩
    obtain ⟨fu, rfl⟩ : ∃ f, fu = f + 1 := ⟨fu - 1, by omega⟩
    have e : ¬ hm_lengths s q.toNatClampNeg ≤ Int32.ofNat i := by rw [i2, q_le (by omega) (by omega)]; omega
    obtain ⟨w0, e0⟩ := i3 i (by omega)
    have hw := iw10 (g i)
    obtain ⟨r1, r2⟩ := ih (i + 1) (fu + 1) (by omega) (by omega)
    obtain ⟨z1, z2⟩ := l_ru0 s q (Int32.ofNat (i + 1)) fu
    constructor
    · refine ⟨fun w => absurd w (by decide), fun _ => ⟨i1, fun w => absurd w e, fun _ => ⟨w0, ?_⟩⟩⟩
      rw [e0, q_1]
      exact ⟨ww10 _, fun _ => ⟨fun _ => r1, fun _ => ⟨fun _ => r1, fun _ => ⟨fun _ => r1, fun _ => ⟨fun _ => r1, fun _ => z1⟩⟩⟩⟩, fun _ => r1⟩
    · conv => lhs; lhs; unfold fn10_isRule_c21
      rw [if_neg (by decide), if_neg e, e0, q_1]
      by_cases h1 : wd (g i)
      · rw [if_neg (fun w => hw.mp w h1), r2, swd_step (Or.inl h1)]
      rw [if_pos (hw.mpr h1)]
      by_cases k1 : g i = 45
      · rw [if_pos k1, r2, swd_step (Or.inr (by rw [k1]; decide))]
      rw [if_neg k1]
      by_cases k2 : g i = 46
      · rw [if_pos k2, r2, swd_step (Or.inr (by rw [k2]; decide))]
      rw [if_neg k2]
      by_cases k3 : g i = 37
      · rw [if_pos k3, r2, swd_step (Or.inr (by rw [k3]; decide))]
      rw [if_neg k3]
      by_cases k4 : g i = 35
      · rw [if_pos k4, r2, swd_step (Or.inr (by rw [k4]; decide))]
      rw [if_neg k4, z2]
      refine ⟨fun _ w => ?_, fun _ => rfl⟩
      rcases w i (by omega) (by omega) with w | w
      · exact h1 w
      · simp only [List.mem_cons, List.not_mem_nil, or_false] at w
        rcases w with w | w | w | w
        · exact k1 w
        · exact k2 w
        · exact k3 w
        · exact k4 w
theorem sw10 {m : qt2} {s : hs} {q : Int32} {n : Nat} {g : Nat → Int32} (h : IT m s q n g) : wp10_isRule s q ∧ (fn10_isRule s q = 0 ↔ ¬ (0 < n ∧ swd g n 0)) := by
  have hn := h.1
  have hfu : hg_fu = 999 + 1 := hg_fu_eq
  obtain ⟨z1, z2⟩ := l_ru0 s q 0 999
  rw [← hfu] at z1 z2
  by_cases hq : q < 0
  · refine ⟨⟨fun _ => z1, fun w => absurd hq w⟩, ?_⟩
    rw [fq10_isRule, if_pos hq, fn10_isRule_c17, fn10_isRule_c18, z2]
    refine ⟨fun _ w => ?_, fun _ => rfl⟩
    rcases h.2.2 with ⟨-, q0⟩ | ⟨a, ha, rfl, -⟩
    · omega
    · exact absurd hq (q_pos (by omega))
  · have hq' : 0 ≤ q := Int32.not_lt.mp hq
    obtain ⟨i1, i2, i3, i4⟩ := h.rf hq'
    obtain ⟨r1, r2⟩ := l_ru h hq' n 0 hg_fu (by omega) (by rw [hg_fu_eq]; omega)
    have e : hm_lengths s q.toNatClampNeg ≤ 0 ↔ n ≤ 0 := by rw [i2]; exact q_le (b := 0) (by omega) (by omega)
    refine ⟨⟨fun w => absurd w hq, fun _ => ⟨i1, fun _ => z1, fun _ => r1⟩⟩, ?_⟩
    rw [fq10_isRule, if_neg hq]
    by_cases h0 : n ≤ 0
    · rw [if_pos (e.mpr h0), fn10_isRule_c17, fn10_isRule_c18, z2]
      exact ⟨fun _ w => by omega, fun _ => rfl⟩
    · rw [if_neg (fun w => h0 (e.mp w)), fn10_isRule_c18]
      exact r2.trans (not_congr ⟨fun w => ⟨by omega, w⟩, fun w => w.2⟩)
/-! what a hole writes -/
noncomputable def vpr (P : Prop) (a b : List Int32) : List Int32 := @ite _ P (Classical.propDecidable P) a b
theorem vpr_t {P : Prop} (h : P) (a b : List Int32) : vpr P a b = a := if_pos h
theorem vpr_f {P : Prop} (h : ¬ P) (a b : List Int32) : vpr P a b = b := if_neg h
noncomputable def vls (k : Int32) (g : Nat → Int32) (n : Nat) : List Int32 :=
  if k < 2 then vfl vmk g 0 n else if k = 2 then vpr (foff g n 0) [35, 111, 102, 102] (vfl (vur true) g 0 n) else if k = 3 then vfl (vur true) g 0 n else if k = 4 then vfl (vur false) g 0 n else if k = 8 then [34] ++ (vfl (vcs false) g 0 n ++ [34]) else if k = 24 then [38, 35, 51, 52, 59] ++ (vfl (vcs false) g 0 n ++ [38, 35, 51, 52, 59]) else if k = 12 ∨ k = 28 then vpr (0 < n ∧ swd g n 0) (vfl vid g 0 n) [110, 111, 110, 101] else if k = 13 ∨ k = 14 ∨ k = 29 ∨ k = 30 then vfl (vcs true) g 0 n else vfl (vcs false) g 0 n
theorem vls_ok (k : Int32) {g : Nat → Int32} {n : Nat} (hg : ∀ i, i < n → okc (g i)) : ∀ v, v ∈ vls k g n → okc v := by
  have f1 := vfl_ok (f := vmk) (n := n) (fun c h => vmk_ok h) hg n 0 (by omega)
  have f2 := fun b => vfl_ok (f := vur b) (n := n) (fun c h => vur_ok b h) hg n 0 (by omega)
  have f3 := fun b => vfl_ok (f := vcs b) (n := n) (fun c h => vcs_ok b h) hg n 0 (by omega)
  have f4 := vfl_ok (f := vid) (n := n) (fun c h => okone h) hg n 0 (by omega)
  unfold vls
  split
  · exact f1
  split
  · by_cases h : foff g n 0
    · rw [vpr_t h]; exact okl (by decide)
    · rw [vpr_f h]; exact f2 _
  split
  · exact f2 _
  split
  · exact f2 _
  split
  · exact okapp (okl (by decide)) (okapp (f3 _) (okl (by decide)))
  split
  · exact okapp (okl (by decide)) (okapp (f3 _) (okl (by decide)))
  split
  · by_cases h : 0 < n ∧ swd g n 0
    · rw [vpr_t h]; exact f4
    · rw [vpr_f h]; exact okl (by decide)
  split
  · exact f3 _
  · exact f3 _
theorem v_markup {m : qt2} {s : hs} {q : Int32} {n : Nat} {g : Nat → Int32} (h : IT m s q n g) (t : qt6) : (OT t → wp7_putMarkup t m q) ∧ fn7_putMarkup t m q = pA t (vfl vmk g 0 n) := by
  have hn := h.1
  obtain ⟨r1, r2⟩ := l_markup h n 0 hg_fu t (by omega) (by rw [hg_fu_eq]; omega)
  exact ⟨r1, by rw [fq7_putMarkup]; exact r2⟩
theorem v_url {m : qt2} {s : hs} {q : Int32} {n : Nat} {g : Nat → Int32} (h : IT m s q n g) {p : Int32} {b : Bool} (hp : (2 : Int32) ≤ p ↔ b = false) (t : qt6) : (OT t → wp7_putUrl t m q p) ∧ fn7_putUrl t m q p = pA t (vfl (vur b) g 0 n) := by
  have hn := h.1
  obtain ⟨r1, r2⟩ := l_url h hp n 0 hg_fu t (by omega) (by rw [hg_fu_eq]; omega)
  exact ⟨r1, by rw [fq7_putUrl]; exact r2⟩
theorem v_scr {m : qt2} {s : hs} {q : Int32} {n : Nat} {g : Nat → Int32} (h : IT m s q n g) {k : Nat} (hk' : k < 37) {l : List Int32} (hl : ∀ t, fn6_putAll 1000 t k = pA t l) (t : qt6) : (OT t → wp6_putAll 1000 t k ∧ wp7_putScript_c29 (fn6_putAll 1000 t k) m q k) ∧ fn7_putScript_c29 (fn6_putAll 1000 t k) m q k = pA t (l ++ (vfl (vcs false) g 0 n ++ l)) := by
  have hn := h.1
  obtain ⟨r1, r2⟩ := l_script h hk' hl n 0 hg_fu (pA t l) (by omega) (by rw [hg_fu_eq]; omega)
  rw [hl]
  refine ⟨fun o => ⟨kc_w hk' o, r1 (o.pA _)⟩, ?_⟩
  rw [fn7_putScript_c29, pA_app]
  exact r2
theorem v_sty {m : qt2} {s : hs} {q : Int32} {n : Nat} {g : Nat → Int32} (h : IT m s q n g) (t : qt6) : (OT t → wp7_putStyleString t m q) ∧ fn7_putStyleString t m q = pA t (vfl (vcs true) g 0 n) := by
  have hn := h.1
  obtain ⟨r1, r2⟩ := l_styles h n 0 hg_fu t (by omega) (by rw [hg_fu_eq]; omega)
  exact ⟨r1, by rw [fq7_putStyleString]; exact r2⟩
theorem v_bare {m : qt2} {s : hs} {q : Int32} {n : Nat} {g : Nat → Int32} (h : IT m s q n g) (t : qt6) : (OT t → wp7_putBareStyle t m q) ∧ fn7_putBareStyle t m q = pA t (vpr (0 < n ∧ swd g n 0) (vfl vid g 0 n) [110, 111, 110, 101]) := by
  have hn := h.1
  obtain ⟨w, e⟩ := sw7 h
  obtain ⟨r1, r2⟩ := l_bare h n 0 hg_fu t (by omega) (by rw [hg_fu_eq]; omega)
  refine ⟨fun o => ⟨w, fun _ => kc_w (by omega) o, fun _ => r1 o⟩, ?_⟩
  rw [fq7_putBareStyle]
  by_cases h0 : 0 < n ∧ swd g n 0
  · rw [if_neg (fun w => e.mp w h0), vpr_t h0]
    exact r2
  · rw [if_pos (e.mpr h0), vpr_f h0, kc35]
theorem v_cls {m : qt2} {s : hs} {q : Int32} {n : Nat} {g : Nat → Int32} (h : IT m s q n g) {k : Int32} (hk' : VC k) (t : qt6) : (OT t → wp7_put t m q k) ∧ fn7_put t m q k = pA t (vls k g n) := by
  have hn := h.1
  have fo : wp7_hasForeignScheme m q ∧ (fn7_hasForeignScheme m q = 0 ↔ ¬ foff g n 0) := by
    obtain ⟨r1, r2⟩ := l_fs h n 0 hg_fu (by omega) (by rw [hg_fu_eq]; omega)
    exact ⟨r1, by rw [fq7_hasForeignScheme]; exact r2⟩
  have mk := v_markup h t
  have u0 := v_url h (p := 0) (b := true) (by decide) t
  have u1 := v_url h (p := 1) (b := true) (by decide) t
  have u2 := v_url h (p := 2) (b := false) (by decide) t
  have c31 := v_scr h (k := 31) (by omega) kc31 t
  have c20 := v_scr h (k := 20) (by omega) kc20 t
  have c30 := v_scr h (k := 30) (by omega) kc30 t
  rw [List.nil_append, List.append_nil] at c30
  have st := v_sty h t
  have ba := v_bare h t
  simp only [VC, List.mem_cons, List.not_mem_nil, or_false] at hk'
  rcases hk' with rfl | rfl | rfl | rfl | rfl | rfl | rfl | rfl | rfl | rfl | rfl | rfl | rfl | rfl | rfl | rfl | rfl
  · refine ⟨fun o => ⟨fun _ => ⟨fun w => absurd w (by decide), fun _ => mk.1 o⟩, fun w => absurd (by decide) w⟩, ?_⟩
    rw [fq7_put, if_pos (by decide), fn7_put_c16, if_neg (by decide), mk.2, vls, if_pos (by decide)]
  · refine ⟨fun o => ⟨fun _ => ⟨fun w => absurd w (by decide), fun _ => mk.1 o⟩, fun w => absurd (by decide) w⟩, ?_⟩
    rw [fq7_put, if_pos (by decide), fn7_put_c16, if_neg (by decide), mk.2, vls, if_pos (by decide)]
  · refine ⟨fun o => ⟨fun _ => ⟨fun _ => ⟨fun _ => ⟨fo.1, fun _ => ⟨fun w => absurd w (by decide), fun _ => by rw [show (2 : Int32) - 2 = 0 from rfl]; exact u0.1 o⟩, fun _ => kc_w (by omega) o⟩, fun w => absurd (by decide) w⟩, fun w => absurd (by decide) w⟩, fun w => absurd (by decide) w⟩, ?_⟩
    rw [fq7_put, if_pos (by decide), fn7_put_c16, if_pos (by decide), if_pos (by decide)]
    by_cases hf : foff g n 0
    · rw [if_neg (fun w => fo.2.mp w hf), kc26, vls, if_neg (by decide), if_pos (by decide), vpr_t hf]
    · rw [if_pos (fo.2.mpr hf), fn7_put_c54, if_neg (by decide), show (2 : Int32) - 2 = 0 from rfl, u0.2, vls, if_neg (by decide), if_pos (by decide), vpr_f hf]
  · refine ⟨fun o => ⟨fun _ => ⟨fun _ => ⟨fun w => absurd w (by decide), fun _ => ⟨fun w => absurd w (by decide), fun _ => by rw [show (3 : Int32) - 2 = 1 from rfl]; exact u1.1 o⟩⟩, fun w => absurd (by decide) w⟩, fun w => absurd (by decide) w⟩, ?_⟩
    rw [fq7_put, if_pos (by decide), fn7_put_c16, if_pos (by decide), if_neg (by decide), fn7_put_c54, if_neg (by decide), show (3 : Int32) - 2 = 1 from rfl, u1.2, vls, if_neg (by decide), if_neg (by decide), if_pos (by decide)]
  · refine ⟨fun o => ⟨fun _ => ⟨fun _ => ⟨fun w => absurd w (by decide), fun _ => ⟨fun w => absurd w (by decide), fun _ => by rw [show (4 : Int32) - 2 = 2 from rfl]; exact u2.1 o⟩⟩, fun w => absurd (by decide) w⟩, fun w => absurd (by decide) w⟩, ?_⟩
    rw [fq7_put, if_pos (by decide), fn7_put_c16, if_pos (by decide), if_neg (by decide), fn7_put_c54, if_neg (by decide), show (4 : Int32) - 2 = 2 from rfl, u2.2, vls, if_neg (by decide), if_neg (by decide), if_neg (by decide), if_pos (by decide)]
  · refine ⟨fun o => ⟨fun _ => ⟨fun _ => ⟨fun w => absurd w (by decide), fun _ => ⟨fun _ => ⟨fun _ => ⟨fun _ => ⟨fun _ => c31.1 o, fun w => absurd (by decide) w⟩, fun w => absurd (by decide) w⟩, fun w => absurd (by decide) w⟩, fun w => absurd (by decide) w⟩⟩, fun w => absurd (by decide) w⟩, fun w => absurd (by decide) w⟩, ?_⟩
    rw [fq7_put, if_pos (by decide), fn7_put_c16, if_pos (by decide), if_neg (by decide), fn7_put_c54, if_pos (by decide), if_pos (by decide), fq7_putScript, if_pos (by decide), if_pos (by decide), c31.2, vls, if_neg (by decide), if_neg (by decide), if_neg (by decide), if_neg (by decide), if_pos (by decide)]
  · refine ⟨fun o => ⟨fun _ => ⟨fun _ => ⟨fun w => absurd w (by decide), fun _ => ⟨fun _ => ⟨fun _ => ⟨fun w => absurd w (by decide), fun _ => c30.1 o⟩, fun w => absurd (by decide) w⟩, fun w => absurd (by decide) w⟩⟩, fun w => absurd (by decide) w⟩, fun w => absurd (by decide) w⟩, ?_⟩
    rw [fq7_put, if_pos (by decide), fn7_put_c16, if_pos (by decide), if_neg (by decide), fn7_put_c54, if_pos (by decide), if_pos (by decide), fq7_putScript, if_neg (by decide), c30.2, vls, if_neg (by decide), if_neg (by decide), if_neg (by decide), if_neg (by decide), if_neg (by decide), if_neg (by decide), if_neg (by decide), if_neg (by decide)]
  · refine ⟨fun o => ⟨fun _ => ⟨fun _ => ⟨fun w => absurd w (by decide), fun _ => ⟨fun _ => ⟨fun _ => ⟨fun w => absurd w (by decide), fun _ => c30.1 o⟩, fun w => absurd (by decide) w⟩, fun w => absurd (by decide) w⟩⟩, fun w => absurd (by decide) w⟩, fun w => absurd (by decide) w⟩, ?_⟩
    rw [fq7_put, if_pos (by decide), fn7_put_c16, if_pos (by decide), if_neg (by decide), fn7_put_c54, if_pos (by decide), if_pos (by decide), fq7_putScript, if_neg (by decide), c30.2, vls, if_neg (by decide), if_neg (by decide), if_neg (by decide), if_neg (by decide), if_neg (by decide), if_neg (by decide), if_neg (by decide), if_neg (by decide)]
  · refine ⟨fun o => ⟨fun _ => ⟨fun _ => ⟨fun w => absurd w (by decide), fun _ => ⟨fun _ => ⟨fun w => absurd w (by decide), fun _ => ⟨fun _ => ba.1 o, fun w => absurd (by decide) w⟩⟩, fun w => absurd (by decide) w⟩⟩, fun w => absurd (by decide) w⟩, fun w => absurd (by decide) w⟩, ?_⟩
    rw [fq7_put, if_pos (by decide), fn7_put_c16, if_pos (by decide), if_neg (by decide), fn7_put_c54, if_pos (by decide), if_neg (by decide), if_pos (by decide), ba.2, vls, if_neg (by decide), if_neg (by decide), if_neg (by decide), if_neg (by decide), if_neg (by decide), if_neg (by decide), if_pos (by decide)]
  · refine ⟨fun o => ⟨fun _ => ⟨fun _ => ⟨fun w => absurd w (by decide), fun _ => ⟨fun _ => ⟨fun w => absurd w (by decide), fun _ => ⟨fun w => absurd w (by decide), fun _ => st.1 o⟩⟩, fun w => absurd (by decide) w⟩⟩, fun w => absurd (by decide) w⟩, fun w => absurd (by decide) w⟩, ?_⟩
    rw [fq7_put, if_pos (by decide), fn7_put_c16, if_pos (by decide), if_neg (by decide), fn7_put_c54, if_pos (by decide), if_neg (by decide), if_neg (by decide), st.2, vls, if_neg (by decide), if_neg (by decide), if_neg (by decide), if_neg (by decide), if_neg (by decide), if_neg (by decide), if_neg (by decide), if_pos (by decide)]
  · refine ⟨fun o => ⟨fun _ => ⟨fun _ => ⟨fun w => absurd w (by decide), fun _ => ⟨fun _ => ⟨fun w => absurd w (by decide), fun _ => ⟨fun w => absurd w (by decide), fun _ => st.1 o⟩⟩, fun w => absurd (by decide) w⟩⟩, fun w => absurd (by decide) w⟩, fun w => absurd (by decide) w⟩, ?_⟩
    rw [fq7_put, if_pos (by decide), fn7_put_c16, if_pos (by decide), if_neg (by decide), fn7_put_c54, if_pos (by decide), if_neg (by decide), if_neg (by decide), st.2, vls, if_neg (by decide), if_neg (by decide), if_neg (by decide), if_neg (by decide), if_neg (by decide), if_neg (by decide), if_neg (by decide), if_pos (by decide)]
  · refine ⟨fun o => ⟨fun w => absurd w (by decide), fun _ => ⟨fun _ => ⟨fun w => absurd w (by decide), fun _ => ⟨fun _ => ⟨fun _ => ⟨fun _ => ⟨fun w => absurd w (by decide), fun _ => c20.1 o⟩, fun w => absurd (by decide) w⟩, fun w => absurd (by decide) w⟩, fun w => absurd (by decide) w⟩⟩, fun w => absurd (by decide) w⟩⟩, ?_⟩
    rw [fq7_put, if_neg (by decide), fn7_put_c16, if_pos (by decide), if_neg (by decide), fn7_put_c54, if_pos (by decide), if_pos (by decide), fq7_putScript, if_pos (by decide), if_neg (by decide), c20.2, vls, if_neg (by decide), if_neg (by decide), if_neg (by decide), if_neg (by decide), if_neg (by decide), if_pos (by decide)]
  · refine ⟨fun o => ⟨fun w => absurd w (by decide), fun _ => ⟨fun _ => ⟨fun w => absurd w (by decide), fun _ => ⟨fun _ => ⟨fun _ => ⟨fun w => absurd w (by decide), fun _ => c30.1 o⟩, fun w => absurd (by decide) w⟩, fun w => absurd (by decide) w⟩⟩, fun w => absurd (by decide) w⟩⟩, ?_⟩
    rw [fq7_put, if_neg (by decide), fn7_put_c16, if_pos (by decide), if_neg (by decide), fn7_put_c54, if_pos (by decide), if_pos (by decide), fq7_putScript, if_neg (by decide), c30.2, vls, if_neg (by decide), if_neg (by decide), if_neg (by decide), if_neg (by decide), if_neg (by decide), if_neg (by decide), if_neg (by decide), if_neg (by decide)]
  · refine ⟨fun o => ⟨fun w => absurd w (by decide), fun _ => ⟨fun _ => ⟨fun w => absurd w (by decide), fun _ => ⟨fun _ => ⟨fun _ => ⟨fun w => absurd w (by decide), fun _ => c30.1 o⟩, fun w => absurd (by decide) w⟩, fun w => absurd (by decide) w⟩⟩, fun w => absurd (by decide) w⟩⟩, ?_⟩
    rw [fq7_put, if_neg (by decide), fn7_put_c16, if_pos (by decide), if_neg (by decide), fn7_put_c54, if_pos (by decide), if_pos (by decide), fq7_putScript, if_neg (by decide), c30.2, vls, if_neg (by decide), if_neg (by decide), if_neg (by decide), if_neg (by decide), if_neg (by decide), if_neg (by decide), if_neg (by decide), if_neg (by decide)]
  · refine ⟨fun o => ⟨fun w => absurd w (by decide), fun _ => ⟨fun _ => ⟨fun w => absurd w (by decide), fun _ => ⟨fun _ => ⟨fun w => absurd w (by decide), fun _ => ⟨fun _ => ba.1 o, fun w => absurd (by decide) w⟩⟩, fun w => absurd (by decide) w⟩⟩, fun w => absurd (by decide) w⟩⟩, ?_⟩
    rw [fq7_put, if_neg (by decide), fn7_put_c16, if_pos (by decide), if_neg (by decide), fn7_put_c54, if_pos (by decide), if_neg (by decide), if_pos (by decide), ba.2, vls, if_neg (by decide), if_neg (by decide), if_neg (by decide), if_neg (by decide), if_neg (by decide), if_neg (by decide), if_pos (by decide)]
  · refine ⟨fun o => ⟨fun w => absurd w (by decide), fun _ => ⟨fun _ => ⟨fun w => absurd w (by decide), fun _ => ⟨fun _ => ⟨fun w => absurd w (by decide), fun _ => ⟨fun w => absurd w (by decide), fun _ => st.1 o⟩⟩, fun w => absurd (by decide) w⟩⟩, fun w => absurd (by decide) w⟩⟩, ?_⟩
    rw [fq7_put, if_neg (by decide), fn7_put_c16, if_pos (by decide), if_neg (by decide), fn7_put_c54, if_pos (by decide), if_neg (by decide), if_neg (by decide), st.2, vls, if_neg (by decide), if_neg (by decide), if_neg (by decide), if_neg (by decide), if_neg (by decide), if_neg (by decide), if_neg (by decide), if_pos (by decide)]
  · refine ⟨fun o => ⟨fun w => absurd w (by decide), fun _ => ⟨fun _ => ⟨fun w => absurd w (by decide), fun _ => ⟨fun _ => ⟨fun w => absurd w (by decide), fun _ => ⟨fun w => absurd w (by decide), fun _ => st.1 o⟩⟩, fun w => absurd (by decide) w⟩⟩, fun w => absurd (by decide) w⟩⟩, ?_⟩
    rw [fq7_put, if_neg (by decide), fn7_put_c16, if_pos (by decide), if_neg (by decide), fn7_put_c54, if_pos (by decide), if_neg (by decide), if_neg (by decide), st.2, vls, if_neg (by decide), if_neg (by decide), if_neg (by decide), if_neg (by decide), if_neg (by decide), if_neg (by decide), if_neg (by decide), if_pos (by decide)]
