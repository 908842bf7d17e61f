/-! an item, in both -/
def IT (m : qt2) (s : hs) (q : Int32) (n : Nat) (g : Nat → Int32) : Prop := n ≤ 40 ∧ (∀ i, i < n → okc (g i)) ∧ ((q = -1 ∧ n = 0) ∨ ∃ a, a < 32 ∧ q = Int32.ofNat a ∧ qg2_lengths m a = Int32.ofNat n ∧ hm_lengths s a = Int32.ofNat n ∧ ∀ i, i < n → qg2_chars m (a * 40 + i) = g i ∧ hm_items s (40 * a + i) = g i)
theorem IT.len {m : qt2} {s : hs} {q : Int32} {n : Nat} {g : Nat → Int32} (h : IT m s q n g) : wp2_length m q ∧ fn2_length m q = Int32.ofNat n := by
  obtain ⟨h1, h2, h3⟩ := h
  rcases h3 with ⟨rfl, rfl⟩ | ⟨a, ha, rfl, h4, h5, h6⟩
  · have e : (-1 : Int32) < 0 := by decide
    refine ⟨⟨fun _ => trivial, fun w => absurd e w⟩, ?_⟩
    rw [fq2_length, if_pos e]
    rfl
  · have e : ¬ Int32.ofNat a < 0 := q_pos (by omega)
    have e2 : ¬ (32 : Int32) ≤ Int32.ofNat a := fun w => by have := (q_le (a := 32) (by omega) (by omega)).mp w; omega
    refine ⟨⟨fun _ => trivial, fun _ => ⟨fun _ => trivial, fun _ => q_inb ha (by omega)⟩⟩, ?_⟩
    rw [fq2_length, if_neg e, if_neg e2, q_cl (by omega)]
    exact h4
theorem IT.at {m : qt2} {s : hs} {q : Int32} {n : Nat} {g : Nat → Int32} (h : IT m s q n g) {i : Nat} (hi : i ≤ 1000) : wp2_at m q (Int32.ofNat i) ∧ fn2_at m q (Int32.ofNat i) = if i < n then g i else 0 := by
  obtain ⟨h1, h2, h3⟩ := h
  have z : ∀ v1 v2, wp2_at_c31 m v1 v2 ∧ fn2_at_c31 m v1 v2 = 0 := fun v1 v2 => ⟨⟨fun _ => trivial, fun w => absurd rfl w⟩, by unfold fn2_at_c31 fn2_at_c32; rw [if_pos rfl]⟩
  rcases h3 with ⟨rfl, rfl⟩ | ⟨a, ha, rfl, h4, h5, h6⟩
  · have e : (-1 : Int32) < 0 := by decide
    refine ⟨⟨fun _ => (z _ _).1, fun w => absurd e w⟩, ?_⟩
    rw [fq2_at, if_pos e, if_neg (by omega), (z _ _).2]
  · have e : ¬ Int32.ofNat a < 0 := q_pos (by omega)
    have e2 : ¬ (32 : Int32) ≤ Int32.ofNat a := fun w => by have := (q_le (a := 32) (by omega) (by omega)).mp w; omega
    have e3 : ¬ Int32.ofNat i < 0 := q_pos (by omega)
    have c1 : (Int32.ofNat a).toNatClampNeg = a := q_cl (by omega)
    have e4 : qg2_lengths m (Int32.ofNat a).toNatClampNeg ≤ Int32.ofNat i ↔ n ≤ i := by rw [c1, h4]; exact q_le (by omega) (by omega)
    have ea : Int32.ofNat a * 40 + Int32.ofNat i = Int32.ofNat (a * 40 + i) := by
      rw [show (40 : Int32) = Int32.ofNat 40 from rfl, q_mul, q_add]
    refine ⟨⟨fun w => absurd w e, fun _ => ⟨fun w => absurd w e2, fun _ => ⟨fun w => absurd w e3, fun _ => ⟨q_inb ha (by omega), fun _ => (z _ _).1, fun w => ⟨fun w => absurd w (by decide), fun _ => ?_⟩⟩⟩⟩⟩, ?_⟩
    · have hin : i < n := by have : ¬ n ≤ i := fun q => w (e4.mpr q); omega
      rw [ea, q_cl (by omega), (h6 i hin).1]
      exact ⟨q_inb (by omega) (by omega), q_fit (h2 i hin).b.1 (h2 i hin).b.2⟩
    · rw [fq2_at, if_neg e, if_neg e2, if_neg e3]
      by_cases hin : i < n
      · rw [if_neg (fun w => by have := e4.mp w; omega), if_pos hin, fn2_at_c32, if_neg (by decide), ea, q_cl (by omega)]
        exact (h6 i hin).1
      · rw [if_pos (e4.mpr (by omega)), if_neg hin, (z _ _).2]
theorem IT.lt {m : qt2} {s : hs} {q : Int32} {n : Nat} {g : Nat → Int32} (h : IT m s q n g) {i : Nat} (hi : i < n) : wp2_at m q (Int32.ofNat i) ∧ fn2_at m q (Int32.ofNat i) = g i := by
  have h1 := h.1
  have := h.at (i := i) (by omega)
  rw [if_pos hi] at this
  exact this
/-! what is written for a character -/
abbrev st1 (c : Int32) : Prop := wd c ∨ c ∈ ([45, 46, 95, 126] : List Int32)
abbrev st2 (c : Int32) : Prop := c ∈ ([47, 58, 64, 33, 36, 42, 43, 44, 59, 61, 63, 35] : List Int32)
abbrev st3 (c : Int32) : Prop := wd c ∨ c ∈ ([32, 46, 44, 45, 95] : List Int32)
abbrev st4 (c : Int32) : Prop := wd c ∨ c ∈ ([45, 46, 37, 35] : List Int32)
abbrev st5 (c : Int32) : Prop := c ∈ ([58, 47, 63, 35] : List Int32)
def vmk (c : Int32) : List Int32 := if c = 38 then [38, 97, 109, 112, 59] else if c = 60 then [38, 108, 116, 59] else if c = 62 then [38, 103, 116, 59] else if c = 34 then [38, 35, 51, 52, 59] else if c = 39 then [38, 35, 51, 57, 59] else [c]
def vur (b : Bool) (c : Int32) : List Int32 := if st1 c then [c] else if b = true ∧ st2 c then [c] else if b = true ∧ c = 38 then [38, 97, 109, 112, 59] else 37 :: hxd c
def vcs (b : Bool) (c : Int32) : List Int32 := if st3 c then [c] else if b = true then 92 :: (hxd c ++ [32]) else 92 :: 120 :: hxd c
def vid (c : Int32) : List Int32 := [c]
def vfl (f : Int32 → List Int32) (g : Nat → Int32) : Nat → Nat → List Int32
  | _, 0 => []
  | i, d + 1 => f (g i) ++ vfl f g (i + 1) d
theorem okl {l : List Int32} (h : l.all (fun c => decide (okc c)) = true) : ∀ c, c ∈ l → okc c := fun c hc => of_decide_eq_true (List.all_eq_true.mp h c hc)
theorem okone {c : Int32} (h : okc c) : ∀ v, v ∈ [c] → okc v := fun v hv => by
  rw [List.mem_singleton] at hv
  rw [hv]; exact h
theorem okapp {l l' : List Int32} (h : ∀ v, v ∈ l → okc v) (h' : ∀ v, v ∈ l' → okc v) : ∀ v, v ∈ l ++ l' → okc v := fun v hv => by
  rcases List.mem_append.mp hv with q | q
  · exact h v q
  · exact h' v q
theorem okcons {c : Int32} {l' : List Int32} (h : okc c) (h' : ∀ v, v ∈ l' → okc v) : ∀ v, v ∈ c :: l' → okc v := fun v hv => by
  rcases List.mem_cons.mp hv with q | q
  · rw [q]; exact h
  · exact h' v q
theorem vmk_ok {c : Int32} (h : okc c) : ∀ v, v ∈ vmk c → okc v := by
  unfold vmk
  repeat' split
  · exact okl (by decide)
  · exact okl (by decide)
  · exact okl (by decide)
  · exact okl (by decide)
  · exact okl (by decide)
  · exact okone h
theorem vur_ok (b : Bool) {c : Int32} (h : okc c) : ∀ v, v ∈ vur b c → okc v := by
  unfold vur
  repeat' split
  · exact okone h
  · exact okone h
  · exact okl (by decide)
  · exact okcons (by decide) (hx_ok h)
theorem vcs_ok (b : Bool) {c : Int32} (h : okc c) : ∀ v, v ∈ vcs b c → okc v := by
  unfold vcs
  repeat' split
  · exact okone h
  · exact okcons (by decide) (okapp (hx_ok h) (okl (by decide)))
  · exact okcons (by decide) (okcons (by decide) (hx_ok h))
theorem vfl_ok {f : Int32 → List Int32} {g : Nat → Int32} {n : Nat} (hf : ∀ c, okc c → ∀ v, v ∈ f c → okc v) (hg : ∀ i, i < n → okc (g i)) : ∀ (d i : Nat), i + d ≤ n → ∀ v, v ∈ vfl f g i d → okc v := by
  intro d
  induction d with
  | zero => intro i _ v hv; rw [vfl] at hv; exact absurd hv List.not_mem_nil
  | succ d ih =>
    intro i hi
    rw [vfl]
    exact okapp (hf _ (hg i (by omega))) (ih (i + 1) (by omega))
/-! where a character stands among constants -/
theorem kcf_mem {k : Nat} {v : Int32} : ∀ (d j : Nat), v ∈ kcf k j d ↔ ∃ i, j ≤ i ∧ i < j + d ∧ hg_by k i = v := by
  intro d
  induction d with
  | zero => intro j; rw [kcf]; exact ⟨fun q => absurd q List.not_mem_nil, fun ⟨i, h1, h2, _⟩ => by omega⟩
  | succ d ih =>
    intro j
    rw [kcf, List.mem_cons, ih]
    constructor
    · intro q
      rcases q with q | ⟨i, h1, h2, h3⟩
      · exact ⟨j, by omega, by omega, q.symm⟩
      · exact ⟨i, by omega, by omega, h3⟩
    · intro ⟨i, h1, h2, h3⟩
      by_cases hij : i = j
      · left; rw [← hij]; exact h3.symm
      · right; exact ⟨i, by omega, by omega, h3⟩
theorem kix {k : Nat} (hk' : k < 37) (hl0 : 0 < hg_ln.getD k 0) {l : List Int32} (hl : kcf k 0 (hg_ln.getD k 0) = l) {v : Int32} (hv : okc v) : wpJ_indexOf k v ∧ (fnJ_indexOf k v < 0 ↔ ¬ v ∈ l) := by
  have h0 : 0 ≤ v := hv.b.1
  have h1 : v ≤ 126 := by
    unfold okc at hv
    rcases hv with q | q
    · rw [q]; decide
    · exact q.2
  obtain ⟨w, e⟩ := j_ix hk' hl0 h0 h1
  refine ⟨w, ?_⟩
  rw [e, ← hl, kcf_mem]
  constructor
  · intro q ⟨i, h1, h2, h3⟩
    exact q i (by omega) h3
  · intro q i hi h3
    exact q ⟨i, by omega, by omega, h3⟩
theorem kx27 {v : Int32} (hv : okc v) : wpJ_indexOf 27 v ∧ (fnJ_indexOf 27 v < 0 ↔ ¬ v ∈ ([45, 46, 95, 126] : List Int32)) := kix (by omega) (by decide) (by decide) hv
theorem kx28 {v : Int32} (hv : okc v) : wpJ_indexOf 28 v ∧ (fnJ_indexOf 28 v < 0 ↔ ¬ st2 v) := kix (by omega) (by decide) (by decide) hv
theorem kx32 {v : Int32} (hv : okc v) : wpJ_indexOf 32 v ∧ (fnJ_indexOf 32 v < 0 ↔ ¬ v ∈ ([32, 46, 44, 45, 95] : List Int32)) := kix (by omega) (by decide) (by decide) hv
theorem kx34 {v : Int32} (hv : okc v) : wpJ_indexOf 34 v ∧ (fnJ_indexOf 34 v < 0 ↔ ¬ v ∈ ([45, 46, 37, 35] : List Int32)) := kix (by omega) (by decide) (by decide) hv
theorem kx22 {v : Int32} (hv : okc v) : wpJ_indexOf 22 v ∧ (fnJ_indexOf 22 v < 0 ↔ ¬ st5 v) := kix (by omega) (by decide) (by decide) hv
theorem sic4 {v : Int32} (hv : okc v) : wp7_staysInCode v ∧ (fn7_staysInCode v = 0 ↔ ¬ st3 v) := by
  obtain ⟨w, e⟩ := kx32 hv
  refine ⟨⟨ww4 v, fun _ => w, fun _ => trivial⟩, ?_⟩
  rw [fq7_staysInCode]
  have hw := iw4 v
  by_cases h1 : wd v
  · rw [if_neg (fun q => hw.mp q h1)]
    exact ⟨fun q => absurd q (by decide), fun q => absurd (Or.inl h1) q⟩
  · rw [if_pos (hw.mpr h1)]
    by_cases h2 : v ∈ ([32, 46, 44, 45, 95] : List Int32)
    · rw [if_neg (fun q => e.mp q h2)]
      exact ⟨fun q => absurd q (by decide), fun q => absurd (Or.inr h2) q⟩
    · rw [if_pos (e.mpr h2)]
      exact ⟨fun _ q => by rcases q with q | q; exact h1 q; exact h2 q, fun _ => rfl⟩
/-! the class's loops over an item -/
theorem vfl_s (f : Int32 → List Int32) (g : Nat → Int32) (t : qt6) (i d : Nat) : pA t (vfl f g i (d + 1)) = pA (pA t (f (g i))) (vfl f g (i + 1) d) := by rw [vfl, pA_app]
theorem p1A (t : qt6) (c : Int32) : (fn6_put 1000 t c).2 = pA t [c] := by rw [pA_cons, pA_nil]
theorem l_markup {m : qt2} {s : hs} {q : Int32} {n : Nat} {g : Nat → Int32} (h : IT m s q n g) : ∀ (d i fu : Nat) (t : qt6), i + d = n → d < fu → (OT t → wp7_putMarkup_c2 fu t m q (Int32.ofNat i)) ∧ fn7_putMarkup_c2 fu t m q (Int32.ofNat i) = pA t (vfl vmk g i d) := by
  have hn := h.1
  obtain ⟨wl, el⟩ := h.len
  intro d
  induction d with
  | zero =>
    intro i fu t hi hf
    obtain ⟨fu, rfl⟩ : ∃ f, fu = f + 1 := ⟨fu - 1, by omega⟩
    have e : fn2_length m q ≤ Int32.ofNat i := by rw [el]; exact (q_le (by omega) (by omega)).mpr (by omega)
    refine ⟨fun _ => ⟨wl, fun _ => trivial, fun w => absurd e w⟩, ?_⟩
    unfold fn7_putMarkup_c2
    rw [if_pos e, vfl, pA_nil]
  | succ d ih =>
    intro i fu t hi hf
    obtain ⟨fu, rfl⟩ : ∃ f, fu = f + 1 := ⟨fu - 1, by omega⟩
    have e : ¬ fn2_length m q ≤ Int32.ofNat i := by rw [el, q_le (by omega) (by omega)]; omega
    obtain ⟨wa, ea⟩ := h.lt (i := i) (by omega)
    have r := fun t => ih (i + 1) fu t (by omega) (by omega)
    constructor
    · intro o
      refine ⟨wl, fun w => absurd w e, fun _ => ⟨wa, ?_⟩⟩
      rw [ea, q_1, kc17, kc18, kc19, kc20, kc21]
      exact ⟨fun _ => ⟨kc_w (by omega) o, (r _).1 (o.pA _)⟩, fun _ => ⟨fun _ => ⟨kc_w (by omega) o, (r _).1 (o.pA _)⟩, fun _ => ⟨fun _ => ⟨kc_w (by omega) o, (r _).1 (o.pA _)⟩, fun _ => ⟨fun _ => ⟨kc_w (by omega) o, (r _).1 (o.pA _)⟩, fun _ => ⟨fun _ => ⟨kc_w (by omega) o, (r _).1 (o.pA _)⟩, fun _ => ⟨o.w _, (r _).1 (o.p _)⟩⟩⟩⟩⟩⟩
    · conv => lhs; unfold fn7_putMarkup_c2
      rw [if_neg e, ea, q_1, kc17, kc18, kc19, kc20, kc21, vfl_s]
      simp only [fun t => (r t).2]
      generalize vfl vmk g (i + 1) d = F
      unfold vmk
      by_cases h1 : g i = 38
      · rw [if_pos h1, if_pos h1]
      rw [if_neg h1, if_neg h1]
      by_cases h2 : g i = 60
      · rw [if_pos h2, if_pos h2]
      rw [if_neg h2, if_neg h2]
      by_cases h3 : g i = 62
      · rw [if_pos h3, if_pos h3]
      rw [if_neg h3, if_neg h3]
      by_cases h4 : g i = 34
      · rw [if_pos h4, if_pos h4]
      rw [if_neg h4, if_neg h4]
      by_cases h5 : g i = 39
      · rw [if_pos h5, if_pos h5]
      rw [if_neg h5, if_neg h5, p1A]
theorem l_url {m : qt2} {s : hs} {q : Int32} {n : Nat} {g : Nat → Int32} (h : IT m s q n g) {p : Int32} {b : Bool} (hp : (2 : Int32) ≤ p ↔ b = false) : ∀ (d i fu : Nat) (t : qt6), i + d = n → d < fu → (OT t → wp7_putUrl_c3 fu t m q p (Int32.ofNat i)) ∧ fn7_putUrl_c3 fu t m q p (Int32.ofNat i) = pA t (vfl (vur b) g i d) := by
  have hn := h.1
  obtain ⟨wl, el⟩ := h.len
  intro d
  induction d with
  | zero =>
    intro i fu t hi hf
    obtain ⟨fu, rfl⟩ : ∃ f, fu = f + 1 := ⟨fu - 1, by omega⟩
    have e : fn2_length m q ≤ Int32.ofNat i := by rw [el]; exact (q_le (by omega) (by omega)).mpr (by omega)
    refine ⟨fun _ => ⟨wl, fun _ => trivial, fun w => absurd e w⟩, ?_⟩
    unfold fn7_putUrl_c3
    rw [if_pos e, vfl, pA_nil]
  | succ d ih =>
    intro i fu t hi hf
    obtain ⟨fu, rfl⟩ : ∃ f, fu = f + 1 := ⟨fu - 1, by omega⟩
    have e : ¬ fn2_length m q ≤ Int32.ofNat i := by rw [el, q_le (by omega) (by omega)]; omega
    obtain ⟨wa, ea⟩ := h.lt (i := i) (by omega)
    have ok := h.2.1 i (by omega)
    have r := fun t => ih (i + 1) fu t (by omega) (by omega)
    obtain ⟨w27, e27⟩ := kx27 ok
    obtain ⟨w28, e28⟩ := kx28 ok
    have hw := iw4 (g i)
    constructor
    · intro o
      refine ⟨wl, fun w => absurd w e, fun _ => ⟨wa, ?_⟩⟩
      rw [ea, q_1, kc17]
      have A : wp6_put 1000 t (g i) ∧ wp7_putUrl_c3 fu (fn6_put 1000 t (g i)).2 m q p (Int32.ofNat (i + 1)) := ⟨o.w _, (r _).1 (o.p _)⟩
      have B : wp6_put 1000 t 37 ∧ wp6_putHex 1000 (fn6_put 1000 t 37).2 (g i) ∧ wp7_putUrl_c3 fu (fn6_putHex 1000 (fn6_put 1000 t 37).2 (g i)) m q p (Int32.ofNat (i + 1)) := ⟨o.w _, (hexA ok _).1 (o.p _), by rw [(hexA ok _).2]; exact (r _).1 ((o.p _).pA _)⟩
      exact ⟨ww4 _, fun _ => ⟨w27, fun _ => ⟨fun _ => B, fun _ => ⟨w28, fun _ => ⟨fun _ => ⟨kc_w (by omega) o, (r _).1 (o.pA _)⟩, fun _ => B⟩, fun _ => A⟩⟩, fun _ => A⟩, fun _ => A⟩
    · conv => lhs; unfold fn7_putUrl_c3
      rw [if_neg e, ea, q_1, kc17, (hexA ok _).2, vfl_s]
      simp only [fun t => (r t).2]
      have e37 : pA (fn6_put 1000 t 37).2 (hxd (g i)) = pA t (37 :: hxd (g i)) := by rw [pA_cons]
      rw [e37, p1A]
      generalize vfl (vur b) g (i + 1) d = F
      unfold vur
      by_cases h1 : wd (g i)
      · rw [if_neg (fun w => hw.mp w h1), if_pos (Or.inl h1)]
      rw [if_pos (hw.mpr h1)]
      by_cases h2 : g i ∈ ([45, 46, 95, 126] : List Int32)
      · rw [if_neg (fun w => e27.mp w h2), if_pos (Or.inr h2)]
      rw [if_pos (e27.mpr h2), if_neg (show ¬ st1 (g i) from fun w => by rcases w with w | w; exact h1 w; exact h2 w)]
      cases b with
      | false =>
        rw [if_pos (hp.mpr rfl), if_neg (show ¬ (false = true ∧ st2 (g i)) from fun w => absurd w.1 (by decide)), if_neg (show ¬ (false = true ∧ g i = 38) from fun w => absurd w.1 (by decide))]
      | true =>
        rw [if_neg (show ¬ (2 : Int32) ≤ p from fun w => absurd (hp.mp w) (by decide))]
        by_cases h3 : st2 (g i)
        · rw [if_neg (fun w => e28.mp w h3), if_pos (show true = true ∧ st2 (g i) from ⟨rfl, h3⟩)]
        rw [if_pos (e28.mpr h3), if_neg (show ¬ (true = true ∧ st2 (g i)) from fun w => h3 w.2)]
        by_cases h4 : g i = 38
        · rw [if_pos h4, if_pos (show true = true ∧ g i = 38 from ⟨rfl, h4⟩)]
        rw [if_neg h4, if_neg (show ¬ (true = true ∧ g i = 38) from fun w => h4 w.2)]
theorem l_script {m : qt2} {s : hs} {q : Int32} {n : Nat} {g : Nat → Int32} (h : IT m s q n g) {k : Nat} (hk' : k < 37) {l : List Int32} (hl : ∀ t, fn6_putAll 1000 t k = pA t l) : ∀ (d i fu : Nat) (t : qt6), i + d = n → d < fu → (OT t → wp7_putScript_c32 fu t m q k (Int32.ofNat i)) ∧ fn7_putScript_c32 fu t m q k (Int32.ofNat i) = pA t (vfl (vcs false) g i d ++ l) := by
  have hn := h.1
  obtain ⟨wl, el⟩ := h.len
  intro d
  induction d with
  | zero =>
    intro i fu t hi hf
    obtain ⟨fu, rfl⟩ : ∃ f, fu = f + 1 := ⟨fu - 1, by omega⟩
    have e : fn2_length m q ≤ Int32.ofNat i := by rw [el]; exact (q_le (by omega) (by omega)).mpr (by omega)
    refine ⟨fun o => ⟨wl, fun _ => kc_w hk' o, fun w => absurd e w⟩, ?_⟩
    unfold fn7_putScript_c32
    rw [if_pos e, vfl, List.nil_append, hl]
  | succ d ih =>
    intro i fu t hi hf
    obtain ⟨fu, rfl⟩ : ∃ f, fu = f + 1 := ⟨fu - 1, by omega⟩
    have e : ¬ fn2_length m q ≤ Int32.ofNat i := by rw [el, q_le (by omega) (by omega)]; omega
    obtain ⟨wa, ea⟩ := h.lt (i := i) (by omega)
    have ok := h.2.1 i (by omega)
    have r := fun t => ih (i + 1) fu t (by omega) (by omega)
    obtain ⟨ws, es⟩ := sic4 ok
    constructor
    · intro o
      refine ⟨wl, fun w => absurd w e, fun _ => ⟨wa, ?_⟩⟩
      rw [ea, q_1, kc33]
      exact ⟨ws, fun _ => ⟨kc_w (by omega) o, (hexA ok _).1 (o.pA _), by rw [(hexA ok _).2]; exact (r _).1 ((o.pA _).pA _)⟩, fun _ => ⟨o.w _, (r _).1 (o.p _)⟩⟩
    · conv => lhs; unfold fn7_putScript_c32
      rw [if_neg e, ea, q_1, kc33, (hexA ok _).2, vfl, List.append_assoc, pA_app]
      simp only [fun t => (r t).2]
      generalize vfl (vcs false) g (i + 1) d ++ l = F
      unfold vcs
      by_cases h1 : st3 (g i)
      · rw [if_neg (fun w => es.mp w h1), if_pos h1, p1A]
      · rw [if_pos (es.mpr h1), if_neg h1, if_neg (by decide)]
        simp only [pA_cons, pA_nil]
theorem l_styles {m : qt2} {s : hs} {q : Int32} {n : Nat} {g : Nat → Int32} (h : IT m s q n g) : ∀ (d i fu : Nat) (t : qt6), i + d = n → d < fu → (OT t → wp7_putStyleString_c2 fu t m q (Int32.ofNat i)) ∧ fn7_putStyleString_c2 fu t m q (Int32.ofNat i) = pA t (vfl (vcs true) g i d) := by
  have hn := h.1
  obtain ⟨wl, el⟩ := h.len
  intro d
  induction d with
  | zero =>
    intro i fu t hi hf
    obtain ⟨fu, rfl⟩ : ∃ f, fu = f + 1 := ⟨fu - 1, by omega⟩
    have e : fn2_length m q ≤ Int32.ofNat i := by rw [el]; exact (q_le (by omega) (by omega)).mpr (by omega)
    refine ⟨fun _ => ⟨wl, fun _ => trivial, fun w => absurd e w⟩, ?_⟩
    unfold fn7_putStyleString_c2
    rw [if_pos e, vfl, pA_nil]
  | succ d ih =>
    intro i fu t hi hf
    obtain ⟨fu, rfl⟩ : ∃ f, fu = f + 1 := ⟨fu - 1, by omega⟩
    have e : ¬ fn2_length m q ≤ Int32.ofNat i := by rw [el, q_le (by omega) (by omega)]; omega
    obtain ⟨wa, ea⟩ := h.lt (i := i) (by omega)
    have ok := h.2.1 i (by omega)
    have r := fun t => ih (i + 1) fu t (by omega) (by omega)
    obtain ⟨ws, es⟩ := sic4 ok
    constructor
    · intro o
      refine ⟨wl, fun w => absurd w e, fun _ => ⟨wa, ?_⟩⟩
      rw [ea, q_1]
      refine ⟨ws, fun _ => ⟨o.w _, (hexA ok _).1 (o.p _), ?_⟩, fun _ => ⟨o.w _, (r _).1 (o.p _)⟩⟩
      rw [(hexA ok _).2]
      exact ⟨((o.p _).pA _).w _, (r _).1 (((o.p _).pA _).p _)⟩
    · conv => lhs; unfold fn7_putStyleString_c2
      rw [if_neg e, ea, q_1, (hexA ok _).2, vfl_s]
      simp only [fun t => (r t).2]
      generalize vfl (vcs true) g (i + 1) d = F
      unfold vcs
      by_cases h1 : st3 (g i)
      · rw [if_neg (fun w => es.mp w h1), if_pos h1, p1A]
      · rw [if_pos (es.mpr h1), if_neg h1, if_pos rfl]
        simp only [pA_cons, pA_app, pA_nil]
theorem l_bare {m : qt2} {s : hs} {q : Int32} {n : Nat} {g : Nat → Int32} (h : IT m s q n g) : ∀ (d i fu : Nat) (t : qt6), i + d = n → d < fu → (OT t → wp7_putBareStyle_c17 fu t m q (Int32.ofNat i)) ∧ fn7_putBareStyle_c17 fu t m q (Int32.ofNat i) = pA t (vfl vid g i d) := by
  have hn := h.1
  obtain ⟨wl, el⟩ := h.len
  intro d
  induction d with
  | zero =>
    intro i fu t hi hf
    obtain ⟨fu, rfl⟩ : ∃ f, fu = f + 1 := ⟨fu - 1, by omega⟩
    have e : fn2_length m q ≤ Int32.ofNat i := by rw [el]; exact (q_le (by omega) (by omega)).mpr (by omega)
    refine ⟨fun _ => ⟨wl, fun _ => trivial, fun w => absurd e w⟩, ?_⟩
    unfold fn7_putBareStyle_c17
    rw [if_pos e, vfl, pA_nil]
  | succ d ih =>
    intro i fu t hi hf
    obtain ⟨fu, rfl⟩ : ∃ f, fu = f + 1 := ⟨fu - 1, by omega⟩
    have e : ¬ fn2_length m q ≤ Int32.ofNat i := by rw [el, q_le (by omega) (by omega)]; omega
    obtain ⟨wa, ea⟩ := h.lt (i := i) (by omega)
    have r := fun t => ih (i + 1) fu t (by omega) (by omega)
    constructor
    · intro o
      refine ⟨wl, fun w => absurd w e, fun _ => ⟨wa, ?_⟩⟩
      rw [ea, q_1]
      exact ⟨o.w _, (r _).1 (o.p _)⟩
    · conv => lhs; unfold fn7_putBareStyle_c17
      rw [if_neg e, ea, q_1, vfl_s, (r _).2, p1A]
      rfl
