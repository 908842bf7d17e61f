/-! cutting the template into symbols -/
def tk (x : qt5) (n : Nat) (K sg p : Int32) : qt5 := qu5_count (qu5_codes (qu5_closes (qu5_turns (qu5_places (qu5_variables (qu5_signs (qu5_kinds x (upd (qg5_kinds x) n K)) (upd (qg5_signs x) n (if K = 1 then sg else 0))) (upd (qg5_variables x) n (sg - 97))) (upd (qg5_places x) n p)) (upd (qg5_turns x) n (Int32.ofNat n))) (upd (qg5_closes x) n (Int32.ofNat n))) (upd (qg5_codes x) n (-1))) (Int32.ofNat (n + 1))
theorem tk_ok {x : qt5} {n : Nat} (hx : qg5_count x = Int32.ofNat n) (hn : n < 240) (K sg p w : Int32) (h0 : 0 ≤ sg) (h1 : sg ≤ 65535) : wp5_take x K sg p w ∧ fn5_take x K sg p w = (w, tk x n K sg p) := by
  have e : ¬ (240 : Int32) ≤ qg5_count x := by
    rw [hx]
    exact fun q => by have := (q_le (a := 240) (by omega) (by omega)).mp q; omega
  have hin : am_inb (Int32.ofNat n) 240 = true := q_inb hn (by omega)
  have z : vp_nar .char 0 = 0 := q_nar (by decide) (by decide)
  have nar : vp_nar .char sg = sg := q_nar h0 h1
  constructor
  · unfold wp5_take wp5_take_c20 wp5_take_c39 wp5_take_c52 wp5_take_c62 wp5_take_c75 wp5_take_c88 wp5_take_c98
    simp only [qa5_kinds, qa5_signs, qa5_variables, qa5_places, qa5_turns, qa5_closes, qa5_codes, qv5_kinds, qv5_signs, qv5_variables, qv5_places, qv5_turns, qv5_closes, qv5_codes, hx, hin, and_self, implies_true, true_and]
  · rw [fq5_take, if_neg e]
    unfold fn5_take_c20 fn5_take_c39 fn5_take_c52 fn5_take_c62 fn5_take_c75 fn5_take_c88 fn5_take_c98 tk
    simp only [qa5_kinds, qa5_signs, qa5_variables, qa5_places, qa5_turns, qa5_closes, qa5_codes, qv5_kinds, qv5_signs, qv5_variables, qv5_places, qv5_turns, qv5_closes, qv5_codes, hx, q_cl (show n < 2147483648 by omega), z, nar, q_1]
    by_cases hk : K = 1
    · rw [if_pos hk, if_pos hk]
    · rw [if_neg hk, if_neg hk]
def pu (s : hs) (n : Nat) (so sg p : Int32) : hs := hu_symbols (hu_place (hu_sign (hu_sort s (upd (hm_sort s) n so)) (upd (hm_sign s) n sg)) (upd (hm_place s) n p)) (Int32.ofNat (n + 1))
theorem pu_ok {s : hs} {n : Nat} (hs' : hm_symbols s = Int32.ofNat n) (hn : n < 240) (so sg p w : Int32) (h0 : 0 ≤ sg) (h1 : sg ≤ 65535) : wp10_push s so sg p w ∧ fn10_push s so sg p w = (p + w, pu s n so sg p) := by
  have hin : am_inb (Int32.ofNat n) 240 = true := q_inb hn (by omega)
  have nar : vp_nar .char sg = sg := q_nar h0 h1
  constructor
  · unfold wp10_push wp10_push_c10 wp10_push_c20 wp10_push_c30
    simp only [ha_sort, ha_sign, ha_place, hv_sort, hv_sign, hv_place, hs', hin, and_self]
  · rw [fq10_push]
    unfold fn10_push_c10 fn10_push_c20 fn10_push_c30 pu
    simp only [ha_sort, ha_sign, ha_place, hv_sort, hv_sign, hv_place, hs', q_cl (show n < 2147483648 by omega), nar, q_1]
/-- where a symbol stands in the template -/
def pl (s : hs) (i : Nat) : Nat := (hm_place s i).toNatClampNeg
/-- one symbol, in both -/
def SY (x : qt5) (s : hs) (i : Nat) : Prop := ∃ so : Nat, so ≤ 6 ∧ hm_sort s i = Int32.ofNat so ∧ qg5_kinds x i = Int32.ofNat (so + 1) ∧ qg5_signs x i = (if so = 0 then hm_sign s i else 0) ∧ qg5_variables x i = hm_sign s i - 97 ∧ qg5_places x i = Int32.ofNat (pl s i) ∧ hm_place s i = Int32.ofNat (pl s i) ∧ (so = 0 → okc (hm_sign s i)) ∧ (1 ≤ so → so ≤ 3 → 97 ≤ hm_sign s i ∧ hm_sign s i ≤ 104)
/-- n symbols; what is cut goes up to p -/
def RS (x : qt5) (s : hs) (n p : Nat) : Prop := qg5_count x = Int32.ofNat n ∧ hm_symbols s = Int32.ofNat n ∧ (∀ i, i < n → SY x s i) ∧ ∀ i, i < n → pl s i + (if hm_sort s i = 1 then 3 else 1) ≤ (if i + 1 < n then pl s (i + 1) else p)
def SN (x : qt5) (i : Nat) : Prop := qg5_turns x i = Int32.ofNat i ∧ qg5_closes x i = Int32.ofNat i ∧ qg5_codes x i = -1
theorem RS.push {x : qt5} {s : hs} {n p so w : Nat} {sg : Int32} (h : RS x s n p) (hnp : ∀ i, i < n → SN x i) (hp : p < 240) (hw : (if so = 1 then 3 else 1) ≤ w) (hso : so ≤ 6) (hc : so = 0 → okc sg) (hv : 1 ≤ so → so ≤ 3 → 97 ≤ sg ∧ sg ≤ 104) : RS (tk x n (Int32.ofNat (so + 1)) sg (Int32.ofNat p)) (pu s n (Int32.ofNat so) sg (Int32.ofNat p)) (n + 1) (p + w) ∧ ∀ i, i < n + 1 → SN (tk x n (Int32.ofNat (so + 1)) sg (Int32.ofNat p)) i := by
  obtain ⟨h1, h2, h3, h4⟩ := h
  have k1 : Int32.ofNat (so + 1) = 1 ↔ so = 0 := by
    have := q_eq (a := so + 1) (b := 1) (by omega) (by omega)
    constructor
    · intro q; have := this.mp q; omega
    · intro q; exact this.mpr (by omega)
  have s1 : Int32.ofNat so = 1 ↔ so = 1 := q_eq (b := 1) (by omega) (by omega)
  have X : qg5_kinds (tk x n (Int32.ofNat (so + 1)) sg (Int32.ofNat p)) = upd (qg5_kinds x) n (Int32.ofNat (so + 1)) ∧ qg5_signs (tk x n (Int32.ofNat (so + 1)) sg (Int32.ofNat p)) = upd (qg5_signs x) n (if so = 0 then sg else 0) ∧ qg5_variables (tk x n (Int32.ofNat (so + 1)) sg (Int32.ofNat p)) = upd (qg5_variables x) n (sg - 97) ∧ qg5_places (tk x n (Int32.ofNat (so + 1)) sg (Int32.ofNat p)) = upd (qg5_places x) n (Int32.ofNat p) ∧ qg5_turns (tk x n (Int32.ofNat (so + 1)) sg (Int32.ofNat p)) = upd (qg5_turns x) n (Int32.ofNat n) ∧ qg5_closes (tk x n (Int32.ofNat (so + 1)) sg (Int32.ofNat p)) = upd (qg5_closes x) n (Int32.ofNat n) ∧ qg5_codes (tk x n (Int32.ofNat (so + 1)) sg (Int32.ofNat p)) = upd (qg5_codes x) n (-1) ∧ qg5_count (tk x n (Int32.ofNat (so + 1)) sg (Int32.ofNat p)) = Int32.ofNat (n + 1) := by
    unfold tk
    simp only [qv5_kinds, qv5_signs, qv5_variables, qv5_places, qv5_turns, qv5_closes, qv5_codes, qv5_count, k1, and_self]
  have S : hm_sort (pu s n (Int32.ofNat so) sg (Int32.ofNat p)) = upd (hm_sort s) n (Int32.ofNat so) ∧ hm_sign (pu s n (Int32.ofNat so) sg (Int32.ofNat p)) = upd (hm_sign s) n sg ∧ hm_place (pu s n (Int32.ofNat so) sg (Int32.ofNat p)) = upd (hm_place s) n (Int32.ofNat p) ∧ hm_symbols (pu s n (Int32.ofNat so) sg (Int32.ofNat p)) = Int32.ofNat (n + 1) := by
    unfold pu
    simp only [hv_sort, hv_sign, hv_place, hv_symbols, and_self]
  obtain ⟨x1, x2, x3, x4, x5, x6, x7, x8⟩ := X
  obtain ⟨y1, y2, y3, y4⟩ := S
  have pln : pl (pu s n (Int32.ofNat so) sg (Int32.ofNat p)) n = p := by
    unfold pl
    rw [y3, upd_at, q_cl (by omega)]
  have plo : ∀ i, i ≠ n → pl (pu s n (Int32.ofNat so) sg (Int32.ofNat p)) i = pl s i := fun i hi => by
    unfold pl
    rw [y3, upd_ne hi]
  refine ⟨⟨x8, y4, fun i hi => ?_, fun i hi => ?_⟩, fun i hi => ?_⟩
  · by_cases hin : i = n
    · subst hin
      refine ⟨so, hso, by rw [y1, upd_at], by rw [x1, upd_at], by rw [x2, y2, upd_at, upd_at], by rw [x3, y2, upd_at, upd_at], by rw [x4, upd_at, pln], by rw [y3, upd_at, pln], by rw [y2, upd_at]; exact hc, by rw [y2, upd_at]; exact hv⟩
    · obtain ⟨so', g1, g2, g3, g4, g5, g6, g7, g8, g9⟩ := h3 i (by omega)
      refine ⟨so', g1, by rw [y1, upd_ne hin]; exact g2, by rw [x1, upd_ne hin]; exact g3, by rw [x2, y2, upd_ne hin, upd_ne hin]; exact g4, by rw [x3, y2, upd_ne hin, upd_ne hin]; exact g5, by rw [x4, upd_ne hin, plo i hin]; exact g6, by rw [y3, upd_ne hin, plo i hin]; exact g7, by rw [y2, upd_ne hin]; exact g8, by rw [y2, upd_ne hin]; exact g9⟩
  · by_cases hin : i = n
    · subst hin
      rw [y1, upd_at, pln, if_neg (show ¬ i + 1 < i + 1 by omega)]
      simp only [s1]
      omega
    · have := h4 i (by omega)
      rw [y1, upd_ne hin, plo i hin]
      by_cases hi2 : i + 1 = n
      · rw [if_pos (show i + 1 < n + 1 by omega), hi2, pln]
        rw [if_neg (show ¬ i + 1 < n by omega)] at this
        exact this
      · rw [if_pos (show i + 1 < n + 1 by omega), plo _ hi2]
        rw [if_pos (show i + 1 < n by omega)] at this
        exact this
  · by_cases hin : i = n
    · subst hin
      exact ⟨by rw [x5, upd_at], by rw [x6, upd_at], by rw [x7, upd_at]⟩
    · obtain ⟨g1, g2, g3⟩ := hnp i (by omega)
      exact ⟨by rw [x5, upd_ne hin]; exact g1, by rw [x6, upd_ne hin]; exact g2, by rw [x7, upd_ne hin]; exact g3⟩
