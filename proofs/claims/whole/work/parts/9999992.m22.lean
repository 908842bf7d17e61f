/-! writing: characters put, in both -/
def ow (s : hs) (a : Nat → Int32) (b c : Int32) : hs := hu_full (hu_size (hu_out s a) b) c
theorem ow_2 (s : hs) (a a' : Nat → Int32) (b c b' c' : Int32) : ow (ow s a b c) a' b' c' = ow s a' b' c' := by
  simp only [ow, hu_full, hu_size, hu_out]
theorem ow_0 (s : hs) : s = ow s (hm_out s) (hm_size s) (hm_full s) := by
  simp only [ow, hu_full, hu_size, hu_out, hm_out, hm_size, hm_full]
def KO (s s' : hs) : Prop := ∃ a b c, s' = ow s a b c
theorem KO.rfl (s : hs) : KO s s := ⟨_, _, _, ow_0 s⟩
theorem KO.trans {a b c : hs} (h : KO a b) (h' : KO b c) : KO a c := by
  obtain ⟨a1, a2, a3, rfl⟩ := h
  obtain ⟨b1, b2, b3, rfl⟩ := h'
  exact ⟨b1, b2, b3, ow_2 ..⟩
def Wo (t : qt6) (s : hs) : Prop := ∃ k, k ≤ 1000 ∧ hm_size s = Int32.ofNat k ∧ Tx t k (hm_out s) ∧ ((qg6_spilled t = 0 ∧ hm_full s = 0) ∨ (qg6_spilled t = 1 ∧ hm_full s = 1 ∧ k = 1000))
theorem put_eq (s : hs) (c : Int32) : fn10_put s c = if hm_full s = 0 then (if hm_size s = 1000 then hu_full s 1 else hu_size (hu_out (hu_full s 0) (upd (hm_out s) (hm_size s).toNatClampNeg (vp_nar .char c))) (hm_size s + 1)) else hu_full s 1 := by
  rw [fq10_put]
  simp only [ha_out, hv_full, hv_out]
theorem put_KO (s : hs) (c : Int32) : KO s (fn10_put s c) := by
  rw [put_eq]
  split
  · split
    · refine ⟨hm_out s, hm_size s, 1, ?_⟩
      simp only [ow, hu_full, hu_size, hu_out, hm_out, hm_size]
    · refine ⟨upd (hm_out s) (hm_size s).toNatClampNeg (vp_nar .char c), hm_size s + 1, 0, ?_⟩
      simp only [ow, hu_full, hu_size, hu_out]
  · refine ⟨hm_out s, hm_size s, 1, ?_⟩
    simp only [ow, hu_full, hu_size, hu_out, hm_out, hm_size]
theorem em_put {t : qt6} {s : hs} {c : Int32} (h : Wo t s) (hc : okc c) : wp6_put 1000 t c ∧ wp10_put s c ∧ Wo (fn6_put 1000 t c).2 (fn10_put s c) := by
  obtain ⟨k, hk, h1, h2, h3⟩ := h
  have e1 : hm_size s = 1000 ↔ k = 1000 := by rw [h1]; exact q_eq (b := 1000) (by omega) (by omega)
  have hin : k < 1000 → am_inb (hm_size (hu_full s 0)) 1000 = true := fun q => by
    simp only [hv_full]
    rw [h1]
    exact q_inb q (by omega)
  have hw : wp10_put s c := ⟨fun _ => ⟨fun _ => trivial, fun q => hin (by have : ¬ k = 1000 := fun w => q (e1.mpr w); omega)⟩, fun _ => trivial⟩
  by_cases hk2 : k = 1000
  · obtain ⟨w1, w2⟩ := Tx.full (c := c) h2 (n := 1000) (by omega) (by omega)
    refine ⟨w1, hw, ?_⟩
    have e : fn10_put s c = hu_full s 1 := by
      rw [put_eq, if_pos (e1.mpr hk2)]
      exact ite_self _
    rw [w2, e]
    refine ⟨k, hk, ?_, ⟨h2.1, ?_⟩, Or.inr ⟨rfl, ?_, hk2⟩⟩
    · simp only [hv_full]; exact h1
    · simp only [hv_full]; exact h2.2
    · simp only [hv_full]
  · have h4 : qg6_spilled t = 0 ∧ hm_full s = 0 := by
      rcases h3 with q | q
      · exact q
      · exact absurd q.2.2 hk2
    obtain ⟨w1, w2, w3⟩ := Tx.put (c := c) h2 (n := 1000) (by omega) (by omega) hc
    refine ⟨w1, hw, ?_⟩
    have e : fn10_put s c = hu_size (hu_out (hu_full s 0) (upd (hm_out s) k c)) (Int32.ofNat (k + 1)) := by
      rw [put_eq, if_pos h4.2, if_neg (fun q => hk2 (e1.mp q)), h1, q_cl (by omega), q_nar hc.b.1 hc.b.2, q_1]
    rw [e]
    refine ⟨k + 1, by omega, ?_, ?_, Or.inl ⟨?_, ?_⟩⟩
    · simp only [hv_size]
    · simp only [hv_size, hv_out]
      exact w3
    · rw [w2]
      exact h4.1
    · simp only [hv_size, hv_out, hv_full]
/-! rows of characters put -/
noncomputable def pA : qt6 → List Int32 → qt6
  | t, [] => t
  | t, c :: l => pA (fn6_put 1000 t c).2 l
noncomputable def pB : hs → List Int32 → hs
  | s, [] => s
  | s, c :: l => pB (fn10_put s c) l
theorem pA_nil (t : qt6) : pA t [] = t := by rw [pA]
theorem pB_nil (s : hs) : pB s [] = s := by rw [pB]
theorem pA_cons (t : qt6) (c : Int32) (l : List Int32) : pA t (c :: l) = pA (fn6_put 1000 t c).2 l := by rw [pA]
theorem pB_cons (s : hs) (c : Int32) (l : List Int32) : pB s (c :: l) = pB (fn10_put s c) l := by rw [pB]
theorem pA_app (l l' : List Int32) : ∀ t : qt6, pA t (l ++ l') = pA (pA t l) l' := by
  induction l with
  | nil => intro t; rw [List.nil_append, pA_nil]
  | cons c l ih => intro t; rw [List.cons_append, pA_cons, pA_cons, ih]
theorem pB_app (l l' : List Int32) : ∀ s : hs, pB s (l ++ l') = pB (pB s l) l' := by
  induction l with
  | nil => intro t; rw [List.nil_append, pB_nil]
  | cons c l ih => intro t; rw [List.cons_append, pB_cons, pB_cons, ih]
def OT (t : qt6) : Prop := ∃ k, k ≤ 1000 ∧ qg6_length t = Int32.ofNat k
def OS (s : hs) : Prop := ∃ k, k ≤ 1000 ∧ hm_size s = Int32.ofNat k
theorem OT.w {t : qt6} (h : OT t) (c : Int32) : wp6_put 1000 t c := by
  obtain ⟨k, h1, h2⟩ := h
  refine ⟨fun q => ?_, fun _ => trivial⟩
  rw [h2] at q ⊢
  exact q_inb ((q_lt (b := 1000) (by omega) (by omega)).mp q) (by omega)
theorem OT.p {t : qt6} (h : OT t) (c : Int32) : OT (fn6_put 1000 t c).2 := by
  obtain ⟨k, h1, h2⟩ := h
  rw [fq6_put]
  by_cases q : qg6_length t < Int32.ofNat 1000
  · rw [if_pos q]
    rw [h2] at q
    have := (q_lt (b := 1000) (by omega) (by omega)).mp q
    refine ⟨k + 1, by omega, ?_⟩
    show qg6_length t + 1 = _
    rw [h2, q_1]
  · rw [if_neg q]
    exact ⟨k, h1, h2⟩
theorem OT.pA (l : List Int32) : ∀ {t : qt6}, OT t → OT (pA t l) := by
  induction l with
  | nil => intro t h; rw [pA_nil]; exact h
  | cons c l ih => intro t h; rw [pA_cons]; exact ih (h.p c)
theorem OS.w {s : hs} (h : OS s) (c : Int32) : wp10_put s c := by
  obtain ⟨k, h1, h2⟩ := h
  refine ⟨fun _ => ⟨fun _ => trivial, fun q => ?_⟩, fun _ => trivial⟩
  simp only [hv_full]
  rw [h2] at q ⊢
  have e1 : Int32.ofNat k = 1000 ↔ k = 1000 := q_eq (b := 1000) (by omega) (by omega)
  exact q_inb (by have : ¬ k = 1000 := fun w => q (e1.mpr w); omega) (by omega)
theorem OS.p {s : hs} (h : OS s) (c : Int32) : OS (fn10_put s c) := by
  obtain ⟨k, h1, h2⟩ := h
  rw [put_eq]
  split
  · split
    · rename_i q1 q2
      refine ⟨k, h1, ?_⟩
      simp only [hv_full]
      exact h2
    · rename_i q1 q2
      rw [h2] at q2
      have e1 : Int32.ofNat k = 1000 ↔ k = 1000 := q_eq (b := 1000) (by omega) (by omega)
      refine ⟨k + 1, by have : ¬ k = 1000 := fun w => q2 (e1.mpr w); omega, ?_⟩
      simp only [hv_size]
      rw [h2, q_1]
  · refine ⟨k, h1, ?_⟩
    simp only [hv_full]
    exact h2
theorem OS.pB (l : List Int32) : ∀ {s : hs}, OS s → OS (pB s l) := by
  induction l with
  | nil => intro t h; rw [pB_nil]; exact h
  | cons c l ih => intro t h; rw [pB_cons]; exact ih (h.p c)
theorem Wo.t {t : qt6} {s : hs} (h : Wo t s) : OT t := by
  obtain ⟨k, h1, h2, h3, -⟩ := h
  exact ⟨k, h1, h3.1⟩
theorem Wo.s {t : qt6} {s : hs} (h : Wo t s) : OS s := by
  obtain ⟨k, h1, h2, h3, -⟩ := h
  exact ⟨k, h1, h2⟩
theorem pB_KO (l : List Int32) : ∀ s : hs, KO s (pB s l) := by
  induction l with
  | nil => intro s; rw [pB_nil]; exact KO.rfl s
  | cons c l ih => intro s; rw [pB_cons]; exact (put_KO s c).trans (ih _)
theorem em_list (l : List Int32) : ∀ (t : qt6) (s : hs), Wo t s → (∀ c, c ∈ l → okc c) → Wo (pA t l) (pB s l) := by
  induction l with
  | nil => intro t s h _; rw [pA_nil, pB_nil]; exact h
  | cons c l ih =>
    intro t s h hc
    rw [pA_cons, pB_cons]
    exact ih _ _ (em_put h (hc c (List.mem_cons_self ..))).2.2 (fun c' h' => hc c' (List.mem_cons_of_mem _ h'))
theorem KO.items {s s' : hs} (h : KO s s') : hm_items s' = hm_items s ∧ hm_lengths s' = hm_lengths s := by
  obtain ⟨a, b, c, rfl⟩ := h
  simp only [ow, hv_full, hv_size, hv_out, and_self]
/-! constants put -/
def kcf (k : Nat) : Nat → Nat → List Int32
  | _, 0 => []
  | j, d + 1 => hg_by k j :: kcf k (j + 1) d
theorem l_putAll {k : Nat} (hk' : k < 37) : ∀ (d j fu : Nat) (t : qt6), j + d = hg_ln.getD k 0 → d < fu → (OT t → wp6_putAll_c2 fu 1000 t k (Int32.ofNat j)) ∧ fn6_putAll_c2 fu 1000 t k (Int32.ofNat j) = pA t (kcf k j d) := by
  have hl := @j_ln k
  intro d
  induction d with
  | zero =>
    intro j fu t hj hf
    obtain ⟨fu, rfl⟩ : ∃ f, fu = f + 1 := ⟨fu - 1, by omega⟩
    have e : fnJ_length k ≤ Int32.ofNat j := by rw [j_len hk']; exact (q_le (by omega) (by omega)).mpr (by omega)
    refine ⟨fun _ => ⟨j_wlen hk', fun _ => trivial, fun q => absurd e q⟩, ?_⟩
    unfold fn6_putAll_c2
    rw [if_pos e, kcf, pA_nil]
  | succ d ih =>
    intro j fu t hj hf
    obtain ⟨fu, rfl⟩ : ∃ f, fu = f + 1 := ⟨fu - 1, by omega⟩
    have e : ¬ fnJ_length k ≤ Int32.ofNat j := by rw [j_len hk', q_le (by omega) (by omega)]; omega
    have ea := j_at hk' (show j < hg_ln.getD k 0 by omega)
    obtain ⟨r1, r2⟩ := ih (j + 1) fu (fn6_put 1000 t (hg_by k j)).2 (by omega) (by omega)
    rw [kcf, pA_cons]
    refine ⟨fun q => ⟨j_wlen hk', fun w => absurd w e, fun _ => ⟨j_wat hk' (by omega), by rw [ea]; exact q.w _, by rw [ea, q_1]; exact r1 (q.p _)⟩⟩, ?_⟩
    conv => lhs; unfold fn6_putAll_c2
    rw [if_neg e, ea, q_1]
    exact r2
theorem kc_w {k : Nat} (hk' : k < 37) {t : qt6} (h : OT t) : wp6_putAll 1000 t k := by
  have hln := @j_ln k
  exact (l_putAll hk' (hg_ln.getD k 0) 0 hg_fu t (by omega) (by rw [hg_fu_eq]; omega)).1 h
theorem kc_all {k : Nat} (hk' : k < 37) {l : List Int32} (hl : kcf k 0 (hg_ln.getD k 0) = l) (t : qt6) : fn6_putAll 1000 t k = pA t l := by
  have hln := @j_ln k
  rw [fq6_putAll, ← hl]
  exact (l_putAll hk' (hg_ln.getD k 0) 0 hg_fu t (by omega) (by rw [hg_fu_eq]; omega)).2
theorem kc17 (t : qt6) : fn6_putAll 1000 t 17 = pA t [38, 97, 109, 112, 59] := kc_all (by omega) (by decide) t
theorem kc18 (t : qt6) : fn6_putAll 1000 t 18 = pA t [38, 108, 116, 59] := kc_all (by omega) (by decide) t
theorem kc19 (t : qt6) : fn6_putAll 1000 t 19 = pA t [38, 103, 116, 59] := kc_all (by omega) (by decide) t
theorem kc20 (t : qt6) : fn6_putAll 1000 t 20 = pA t [38, 35, 51, 52, 59] := kc_all (by omega) (by decide) t
theorem kc21 (t : qt6) : fn6_putAll 1000 t 21 = pA t [38, 35, 51, 57, 59] := kc_all (by omega) (by decide) t
theorem kc26 (t : qt6) : fn6_putAll 1000 t 26 = pA t [35, 111, 102, 102] := kc_all (by omega) (by decide) t
theorem kc30 (t : qt6) : fn6_putAll 1000 t 30 = pA t [] := kc_all (by omega) (by decide) t
theorem kc31 (t : qt6) : fn6_putAll 1000 t 31 = pA t [34] := kc_all (by omega) (by decide) t
theorem kc33 (t : qt6) : fn6_putAll 1000 t 33 = pA t [92, 120] := kc_all (by omega) (by decide) t
theorem kc35 (t : qt6) : fn6_putAll 1000 t 35 = pA t [110, 111, 110, 101] := kc_all (by omega) (by decide) t
theorem wput5 {s : hs} (h : OS s) (a b c d e : Int32) : wp10_put5 s a b c d e := ⟨h.w _, (h.p _).w _, ((h.p _).p _).w _, (((h.p _).p _).p _).w _, fun _ => trivial, fun _ => ((((h.p _).p _).p _).p _).w _⟩
theorem put5_eq (s : hs) {a b c d e : Int32} (he : ¬ e = 0) : fn10_put5 s a b c d e = pB s [a, b, c, d, e] := by
  rw [fq10_put5, fn10_put5_c5, fn10_put5_c10, fn10_put5_c15, fn10_put5_c21, if_neg he]
  simp only [pB_cons, pB_nil]
theorem put4_eq (s : hs) (a b c d : Int32) : fn10_put5 s a b c d 0 = pB s [a, b, c, d] := by
  rw [fq10_put5, fn10_put5_c5, fn10_put5_c10, fn10_put5_c15, fn10_put5_c21, if_pos rfl]
  simp only [pB_cons, pB_nil]
/-! two digits to the base 16 -/
def hxd (c : Int32) : List Int32 := [hg_by 29 (c.toNatClampNeg / 16), hg_by 29 (c.toNatClampNeg % 16)]
theorem hx_tab : ∀ a : Nat, a < 127 → ((Int32.ofNat a >>> ((4 : Int32) &&& 31)) &&& (15 : Int32)) = Int32.ofNat (a / 16) ∧ (Int32.ofNat a &&& (15 : Int32)) = Int32.ofNat (a % 16) ∧ Int32.ofNat a / (16 : Int32) = Int32.ofNat (a / 16) ∧ Int32.ofNat a - Int32.ofNat a / (16 : Int32) * (16 : Int32) = Int32.ofNat (a % 16) := by decide +kernel
theorem hx_tab2 : ∀ b : Nat, b < 16 → (if (10 : Int32) ≤ Int32.ofNat b then (((((65 : Int32) + Int32.ofNat b) - (10 : Int32))).toUInt32 % 65536).toInt32 else ((((48 : Int32) + Int32.ofNat b)).toUInt32 % 65536).toInt32) = hg_by 29 b ∧ am_fit .char (.inl (hg_by 29 b)) = true ∧ okc (hg_by 29 b) := by decide +kernel
theorem okc.of {c : Int32} (h : okc c) : ∃ a, a < 127 ∧ c = Int32.ofNat a := by
  have h0 : ¬ c < 0 := by unfold okc at h; grind
  obtain ⟨a, ha, rfl⟩ := q_of h0
  refine ⟨a, ?_, rfl⟩
  have h1 : Int32.ofNat a ≤ 126 := by
    unfold okc at h
    rcases h with q | q
    · rw [q]; decide
    · exact q.2
  have := (q_le (b := 126) ha (by omega)).mp h1
  omega
theorem hex_eq (s : hs) {b : Nat} (hb : b < 16) : wp10_hex s (Int32.ofNat b) ∧ fn10_hex s (Int32.ofNat b) = hg_by 29 b := by
  obtain ⟨h1, h2, -⟩ := hx_tab2 b hb
  constructor
  · by_cases h : (10 : Int32) ≤ Int32.ofNat b
    · rw [if_pos h] at h1
      exact ⟨fun _ => by rw [h1]; exact h2, fun q => absurd h q⟩
    · rw [if_neg h] at h1
      exact ⟨fun q => absurd q h, fun _ => by rw [h1]; exact h2⟩
  · rw [fq10_hex]
    exact h1
theorem l29 : hg_ln.getD 29 0 = 16 := rfl
theorem hexA {c : Int32} (h : okc c) (t : qt6) : (OT t → wp6_putHex 1000 t c) ∧ fn6_putHex 1000 t c = pA t (hxd c) := by
  obtain ⟨a, ha, rfl⟩ := h.of
  obtain ⟨t1, t2, t3, t4⟩ := hx_tab a ha
  have c1 : (Int32.ofNat a).toNatClampNeg = a := q_cl (by omega)
  have i1 : a / 16 < hg_ln.getD 29 0 := by rw [l29]; omega
  have i2 : a % 16 < hg_ln.getD 29 0 := by rw [l29]; omega
  have e1 : fn4_highHex (Int32.ofNat a) = hg_by 29 (a / 16) := by rw [fq4_highHex, t1, j_at (by omega) i1]
  have e2 : fn4_lowHex (Int32.ofNat a) = hg_by 29 (a % 16) := by rw [fq4_lowHex, t2, j_at (by omega) i2]
  have w1 : wp4_highHex (Int32.ofNat a) := by
    unfold wp4_highHex
    rw [t1]
    exact ⟨j_wat (by omega) i1, by rw [j_at (by omega) i1]; exact (hx_tab2 _ (by omega)).2.1⟩
  have w2 : wp4_lowHex (Int32.ofNat a) := by
    unfold wp4_lowHex
    rw [t2]
    exact ⟨j_wat (by omega) i2, by rw [j_at (by omega) i2]; exact (hx_tab2 _ (by omega)).2.1⟩
  refine ⟨fun q => ⟨w1, q.w _, w2, (q.p _).w _⟩, ?_⟩
  unfold hxd
  rw [c1, fq6_putHex, e1, e2]
  simp only [pA_cons, pA_nil]
theorem hexB {c : Int32} (h : okc c) (s : hs) : (OS s → wp10_putHex s c) ∧ fn10_putHex s c = pB s (hxd c) := by
  obtain ⟨a, ha, rfl⟩ := h.of
  obtain ⟨t1, t2, t3, t4⟩ := hx_tab a ha
  have c1 : (Int32.ofNat a).toNatClampNeg = a := q_cl (by omega)
  have h1 := fun s => hex_eq s (show a / 16 < 16 by omega)
  have h2 := fun s => hex_eq s (show a % 16 < 16 by omega)
  constructor
  · intro q
    unfold wp10_putHex
    rw [t4, t3]
    exact ⟨(h1 s).1, q.w _, (h2 _).1, (q.p _).w _⟩
  · unfold hxd
    rw [c1, fq10_putHex, t4, t3, (h1 s).2, (h2 _).2]
    simp only [pB_cons, pB_nil]
theorem hx_ok {c : Int32} (h : okc c) : ∀ v, v ∈ hxd c → okc v := by
  obtain ⟨a, ha, rfl⟩ := h.of
  have c1 : (Int32.ofNat a).toNatClampNeg = a := q_cl (by omega)
  unfold hxd
  rw [c1]
  intro v hv
  simp only [List.mem_cons, List.not_mem_nil, or_false] at hv
  rcases hv with rfl | rfl
  · exact (hx_tab2 _ (by omega)).2.2
  · exact (hx_tab2 _ (by omega)).2.2
