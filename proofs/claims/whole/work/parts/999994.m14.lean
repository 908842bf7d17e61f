/-! contexts packed; the codes of holes -/
def pkv (c : qt1) : Int32 := ((((((qg1_quote c) <<< ((10 : Int32) &&& 31)) ||| ((qg1_name c) <<< ((7 : Int32) &&& 31))) ||| ((qg1_element c) <<< ((5 : Int32) &&& 31))) ||| ((qg1_kind c) <<< ((3 : Int32) &&& 31))) ||| (qg1_part c))
theorem pkv_eq (c : qt1) : fn1_packed c = pkv c := fq1_packed c
def upv (v : Int32) : qt1 := ((v >>> ((7 : Int32) &&& 31)) &&& (7 : Int32), (v >>> ((5 : Int32) &&& 31)) &&& (3 : Int32), ((((v >>> ((10 : Int32) &&& 31)) &&& (127 : Int32))).toUInt32 % 65536).toInt32, (v >>> ((3 : Int32) &&& 31)) &&& (3 : Int32), v &&& (7 : Int32))
theorem up_eq (c : qt1) (v : Int32) : fn1_unpack c v = upv v := by
  rw [fq1_unpack]
  rfl
def stv (c : qt1) : Int32 := (((((qg1_name c) + ((8 : Int32) * (qg1_element c))) + ((32 : Int32) * (qg1_kind c))) + ((128 : Int32) * (qg1_part c))) + ((1024 : Int32) * (qg1_quote c)))
theorem st_eq (s : hs) (c : qt1) : fn10_state (hk s c) = stv c := by
  rw [fq10_state]
  rfl
def rsv (v : Int32) : qt1 := (v - v / (8 : Int32) * (8 : Int32), (v / (8 : Int32)) - (v / (8 : Int32)) / (4 : Int32) * (4 : Int32), (((v / (1024 : Int32))).toUInt32 % 65536).toInt32, (v / (32 : Int32)) - (v / (32 : Int32)) / (4 : Int32) * (4 : Int32), (v / (128 : Int32)) - (v / (128 : Int32)) / (8 : Int32) * (8 : Int32))
theorem rs_eq (s : hs) (c : qt1) (v : Int32) : fn10_restore (hk s c) v = hk s (rsv v) := by
  rw [fq10_restore]
  rfl
def cdv (c : qt1) : Int32 := if qg1_name c = 0 then 0 else if qg1_name c = 5 then 0 else if 3 ≤ qg1_part c then -1 else if qg1_name c = 2 then (if qg1_kind c = 1 then 2 + qg1_part c else if qg1_kind c = 2 then 24 + qg1_part c else if qg1_kind c = 3 then 28 + qg1_part c else 1) else if qg1_name c = 3 then 8 + qg1_part c else if qg1_name c = 4 then 12 + qg1_part c else -1
abbrev VC (k : Int32) : Prop := k ∈ ([0, 1, 2, 3, 4, 8, 9, 10, 12, 13, 14, 24, 25, 26, 28, 29, 30] : List Int32)
abbrev qe (c d : qt1) : Prop := qg1_name c = qg1_name d ∧ qg1_element c = qg1_element d ∧ qg1_quote c = qg1_quote d ∧ qg1_kind c = qg1_kind d ∧ qg1_part c = qg1_part d
theorem qe_eq {c d : qt1} (h : qe c d) : c = d := by
  obtain ⟨c1, c2, c3, c4, c5⟩ := c
  obtain ⟨d1, d2, d3, d4, d5⟩ := d
  obtain ⟨h1, h2, h3, h4, h5⟩ := h
  have h1 : c1 = d1 := h1
  have h2 : c2 = d2 := h2
  have h3 : c3 = d3 := h3
  have h4 : c4 = d4 := h4
  have h5 : c5 = d5 := h5
  rw [h1, h2, h3, h4, h5]
def cx_chk (c : qt1) : Bool := decide (qe (upv (pkv c)) c) && (decide (qe (rsv (stv c)) c) && (decide (pkv c ≠ -1) && decide (cdv c = -1 ∨ VC (cdv c))))
theorem cx_all : ((List.range 7).all fun a => (List.range 4).all fun e => (List.range 4).all fun k => (List.range 5).all fun p => ([0, 34, 39] : List Int32).all fun q => cx_chk (Int32.ofNat a, Int32.ofNat e, q, Int32.ofNat k, Int32.ofNat p)) = true := by decide +kernel
theorem CX.tab {c : qt1} (h : CX c) : upv (pkv c) = c ∧ rsv (stv c) = c ∧ pkv c ≠ -1 ∧ (cdv c = -1 ∨ VC (cdv c)) := by
  obtain ⟨a, e, k, p, q, h1, h2, h3, h4, h5, rfl⟩ := h
  have w := cx_all
  simp only [List.all_eq_true, List.mem_range] at w
  have w := w a (by omega) e (by omega) k (by omega) p (by omega) q (by rcases h5 with rfl | rfl | rfl <;> simp)
  unfold cx_chk at w
  simp only [Bool.and_eq_true, decide_eq_true_eq] at w
  exact ⟨qe_eq w.1, qe_eq w.2.1, w.2.2⟩
theorem CX.pinj {c d : qt1} (h : CX c) (h' : CX d) : pkv c = pkv d ↔ c = d := ⟨fun q => by rw [← h.tab.1, q, h'.tab.1], fun q => by rw [q]⟩
theorem CX.sinj {c d : qt1} (h : CX c) (h' : CX d) : stv c = stv d ↔ c = d := ⟨fun q => by rw [← h.tab.2.1, q, h'.tab.2.1], fun q => by rw [q]⟩
theorem CX.q {c : qt1} (h : CX c) : am_fit .char (.inl (qg1_quote c)) = true := by
  obtain ⟨a, e, k, p, q, h1, h2, h3, h4, h5, rfl⟩ := h
  show am_fit .char (.inl q) = true
  rcases h5 with rfl | rfl | rfl <;> decide
theorem CX.wup {c : qt1} (h : CX c) (d : qt1) : wp1_unpack d (pkv c) := by
  have e : ((((pkv c >>> ((10 : Int32) &&& 31)) &&& (127 : Int32))).toUInt32 % 65536).toInt32 = qg1_quote c := congrArg qg1_quote h.tab.1
  refine ⟨?_, trivial⟩
  rw [e]
  exact h.q
theorem CX.wrs {c : qt1} (h : CX c) (s : hs) : wp10_restore s (stv c) := by
  have e : (((stv c / (1024 : Int32))).toUInt32 % 65536).toInt32 = qg1_quote c := congrArg qg1_quote h.tab.2.1
  show am_fit .char (.inl ((((stv c / (1024 : Int32))).toUInt32 % 65536).toInt32)) = true
  rw [e]
  exact h.q
theorem cd_eq (c : qt1) : wp1_code c ∧ fn1_code c = cdv c := by
  constructor
  · unfold wp1_code wp1_code_c13 wp1_codeInValue
    simp only [implies_true, and_self]
  · rw [fq1_code]
    unfold fn1_code_c13 cdv
    rw [fq1_codeInValue]
    by_cases k0 : qg1_name c = 0
    · simp only [if_pos k0, ite_self]
    · by_cases k5 : qg1_name c = 5
      · have n1 : ¬ qg1_name c = 1 := by rw [k5]; decide
        have n2 : ¬ qg1_name c = 2 := by rw [k5]; decide
        have n3 : ¬ qg1_name c = 3 := by rw [k5]; decide
        have n4 : ¬ qg1_name c = 4 := by rw [k5]; decide
        simp only [if_neg k0, if_neg n1, if_neg n2, if_neg n3, if_neg n4, if_pos k5, ite_self]
      · by_cases k3 : 3 ≤ qg1_part c
        · simp only [if_neg k0, if_neg k5, if_pos k3, if_true, ite_self]
        · simp only [if_neg k0, if_neg k5, if_neg k3, show ¬ (1 : Int32) = 0 by decide, if_false]
          by_cases k1 : qg1_name c = 1
          · have n2 : ¬ qg1_name c = 2 := by rw [k1]; decide
            have n3 : ¬ qg1_name c = 3 := by rw [k1]; decide
            have n4 : ¬ qg1_name c = 4 := by rw [k1]; decide
            simp only [if_pos k1, if_neg n2, if_neg n3, if_neg n4]
          · simp only [if_neg k1]
theorem hc_eq (s : hs) {c : qt1} (h : CX c) : wp10_holeContext (hk s c) ∧ fn10_holeContext (hk s c) = cdv c := by
  constructor
  · unfold wp10_holeContext wp10_holeContext_c33 wp10_holeContext_c38 wp10_holeContext_c51 wp10_holeContext_c80 wp10_holeContext_c129
    simp only [implies_true, and_self]
  · rw [fq10_holeContext]
    unfold fn10_holeContext_c33 fn10_holeContext_c38 fn10_holeContext_c51 fn10_holeContext_c80 fn10_holeContext_c129 cdv
    simp only [hk_mname, hk_mpart, hk_mkind, show ¬ (1 : Int32) = 0 by decide, if_false, if_true]
    have hp : qg1_part c ≤ 2 ↔ ¬ 3 ≤ qg1_part c := by grind
    have hk3 : qg1_kind c = 0 ∨ qg1_kind c = 1 ∨ qg1_kind c = 2 ∨ qg1_kind c = 3 := by
      obtain ⟨a, e, k, p, q, h1, h2, h3, h4, h5, rfl⟩ := h
      show Int32.ofNat k = 0 ∨ Int32.ofNat k = 1 ∨ Int32.ofNat k = 2 ∨ Int32.ofNat k = 3
      match k, h3 with
      | 0, _ => exact Or.inl rfl
      | 1, _ => exact Or.inr (Or.inl rfl)
      | 2, _ => exact Or.inr (Or.inr (Or.inl rfl))
      | 3, _ => exact Or.inr (Or.inr (Or.inr rfl))
    clear h
    generalize qg1_name c = a at *
    generalize qg1_part c = p at *
    generalize qg1_kind c = k at *
    simp only [hp]
    by_cases k0 : a = 0
    · simp only [if_pos k0]
    · by_cases k5 : a = 5
      · simp only [if_neg k0, if_pos k5]
      · by_cases k3 : 3 ≤ p
        · simp only [if_neg k0, if_neg k5, if_neg (nn k3), if_pos k3, ite_self]
        · simp only [if_neg k0, if_neg k5, if_pos k3, if_neg k3]
          by_cases k2 : a = 2
          · have n3 : ¬ a = 3 := by rw [k2]; decide
            have n4 : ¬ a = 4 := by rw [k2]; decide
            simp only [if_pos k2, if_neg n3, if_neg n4]
            rcases hk3 with q | q | q | q <;> subst q <;> rfl
          · by_cases k6 : a = 3
            · simp only [if_neg k2, if_pos k6]
            · by_cases k7 : a = 4
              · simp only [if_neg k2, if_neg k6, if_pos k7]
              · simp only [if_neg k2, if_neg k6, if_neg k7]
