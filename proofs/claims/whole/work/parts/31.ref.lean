noncomputable def ki10_blanksFrom : List (Nat × Option (List Nat) × Nat × (List am_V → List am_C → Prop) × am_M) := [(6, none, 2, pr10_ch, fm10_ch), (9, some [], 1, pr10_isBlank, fm10_isBlank)]
noncomputable def kb10_blanksFrom : am_B := (kd10_blanksFrom, am_as kf10, hn_ty, fun _ => none, fun _ => none, am_as ki10_blanksFrom, fun _ => none, 5, 3, (some .int))
def fn10_blanksFrom_c2 : Nat → hs → Int32 → Int32 → Int32
  | 0, _, _, _ => 0
  | n + 1, s, v1, v2 => (if (fn10_isBlank (fn10_ch s (v1 + v2))) = 0 then v2 else (fn10_blanksFrom_c2 n s v1 (v2 + (1 : Int32))))
def wp10_blanksFrom_c2 : Nat → hs → Int32 → Int32 → Prop
  | 0, _, _, _ => False
  | n + 1, s, v1, v2 => ((wp10_ch s (v1 + v2)) ∧ ((wp10_isBlank (fn10_ch s (v1 + v2))) ∧ (((fn10_isBlank (fn10_ch s (v1 + v2))) = 0 → True) ∧ (¬ (fn10_isBlank (fn10_ch s (v1 + v2))) = 0 → (wp10_blanksFrom_c2 n s v1 (v2 + (1 : Int32)))))))
set_option maxRecDepth 100000 in
set_option maxHeartbeats 4000000 in
theorem rc10_blanksFrom_2 : ∀ (n : Nat) (s : hs) (v1 : Int32) (v2 : Int32) , wp10_blanksFrom_c2 n s v1 v2 → am_lf (am_mk kb10_blanksFrom 0 0 22) [2] (2, [some (.inr (.inl 0)), some (.inl v1), some (.inl v2)], [], hm_w s, 0, 0) = some (some (.inl (fn10_blanksFrom_c2 n s v1 v2)), hm_w s) := by
  intro n
  induction n with
  | zero =>
    intro s v1 v2 hp
    exact hp.elim
  | succ n ih =>
    intro s v1 v2 hp
    unfold wp10_blanksFrom_c2 at hp
    refine am_lf_eq ?_
    generalize am_lf (am_mk kb10_blanksFrom 0 0 22) [2] = kt at ih ⊢
    refine am_cx (pre := pr10_ch) (f := fm10_ch) (r := (some (.inl (fn10_ch s (v1 + v2))), hm_w s, 0, 0)) ?_ ?_ ?_
    · exact ⟨s, [(v1 + v2)], rfl, rfl, hp.1⟩
    · rfl
    refine am_cy (pre := pr10_isBlank) (f := fm10_isBlank) (r := (some (.inl (fn10_isBlank (fn10_ch s (v1 + v2)))), [], 0, 0)) ?_ ?_ ?_
    · exact ⟨[(fn10_ch s (v1 + v2))], rfl, rfl, hp.2.1⟩
    · rfl
    refine am_if (c := (fn10_isBlank (fn10_ch s (v1 + v2))) = 0) (fun h2 => ?_) (fun h2 => ?_)
    · have e : fn10_blanksFrom_c2 (n + 1) s v1 v2 = v2 := by
        rw [fn10_blanksFrom_c2]
        rw [if_pos h2]
      rw [e] <;> rfl
    · have q2 := hp.2.2.2 h2
      have e : fn10_blanksFrom_c2 (n + 1) s v1 v2 = fn10_blanksFrom_c2 n s v1 (v2 + (1 : Int32)) := by
        rw [fn10_blanksFrom_c2]
        rw [if_neg h2]
      rw [e]
      exact ih s v1 (v2 + (1 : Int32))  q2
def fn10_blanksFrom (s : hs) (p0 : Int32) : Int32 := (fn10_blanksFrom_c2 1000 s p0 (0 : Int32))
def wp10_blanksFrom (s : hs) (p0 : Int32) : Prop := (wp10_blanksFrom_c2 1000 s p0 (0 : Int32))
set_option maxRecDepth 100000 in
set_option maxHeartbeats 4000000 in
theorem re10_blanksFrom (s : hs) (p0 : Int32) (hp : wp10_blanksFrom s p0) : am_lf (am_mk kb10_blanksFrom 0 0 22) [2] (0, am_L0 [.inr (.inl 0), .inl p0] 3, [], hm_w s, 0, 0) = some (some (.inl (fn10_blanksFrom s p0)), hm_w s) := by
  unfold wp10_blanksFrom at hp
  have i2 := @rc10_blanksFrom_2
  refine am_lf_eq ?_
  generalize am_lf (am_mk kb10_blanksFrom 0 0 22) [2] = kt at i2 ⊢
  exact i2 1000 s p0 (0 : Int32)  hp
abbrev pr10_blanksFrom : List am_V → List am_C → Prop := hm_pr (fun s is => match is with
  | [p0] => wp10_blanksFrom s p0
  | _ => False)
def fm10_blanksFrom : am_M := hm_fn (fun s is => match is with
  | [p0] => (fn10_blanksFrom s p0, s)
  | _ => (0, s))
set_option maxRecDepth 100000 in
set_option maxHeartbeats 4000000 in
theorem rn10_blanksFrom : ∀ (a : List am_V) (w : List am_C), pr10_blanksFrom a w → ∃ n, am_ev (am_mk kb10_blanksFrom (fm10_blanksFrom a w).2.2.1 (fm10_blanksFrom a w).2.2.2 w.length) [2] n (0, am_L0 a 3, [], w, 0, 0) = some ((fm10_blanksFrom a w).1, (fm10_blanksFrom a w).2.1) := by
  rintro a w ⟨s, is, rfl, rfl, hp⟩
  rcases is with _ | ⟨p0, _ | ⟨z, is⟩⟩
  · exact hp.elim
  · exact am_lf_ev (re10_blanksFrom s p0 hp)
  · exact hp.elim
theorem rl10_blanksFrom : ∀ (a : List am_V) (w : List am_C), pr10_blanksFrom a w → a.length ≤ 3 := by
  rintro a w ⟨s, is, rfl, rfl, hp⟩
  rcases is with _ | ⟨p0, _ | ⟨z, is⟩⟩
  · exact hp.elim
  · exact Nat.le_of_ble_eq_true rfl
  · exact hp.elim
set_option maxRecDepth 100000 in
set_option maxHeartbeats 4000000 in
theorem km10_blanksFrom {l : Launch} {E : (Nat → Prop) → State → Prop} {D : va_G} {ou : Nat → Nat} {ca : Nat → ClassId} (hE : am_EC E) : hg_Met l E D ou ca hy10_blanksFrom prog_12_method_17_code 3 (some .int) 1 pr10_blanksFrom fm10_blanksFrom := by
  refine am_met (B := kb10_blanksFrom) (cuts := [2]) (nt := 5) (by decide +kernel) rfl rfl (hg_tys_ok ca) ?_ (by decide) rl10_blanksFrom ?_ rn10_blanksFrom
  · exact fun t ht => List.mem_cons_of_mem _ (hg_arr t ht)
  · intro a w hp ad p e R s m args below meth c hR X hEs hnm
    have hR1 : 1 ≤ R.frames ∧ 40 ≤ R.locals := by rw [hR]; exact ⟨Nat.le_refl _, Nat.le_refl _⟩
    refine ⟨kd10_blanksFrom_ok, fun index ci fi mode hq => kf10_ok X.2.2.2.2.1 (index, ci, fi, mode) (am_as_mem hq), fun index ci fs hq => (am_no hq).elim, fun x v hq => (am_no hq).elim, ?_, fun o n f hq => (am_no hq).elim, rfl, rfl, by rw [hR]; exact Nat.le_refl _, by rw [hR]; exact Nat.le_refl _⟩
    intro pc sel n0 pre0 f0 hq
    have hz : ∀ q ∈ ki10_blanksFrom, am_CK p l e R s m args below meth c D hn_cl (va_A (am_w ad ou ca w) s.heap.size) ou ca 3 q.1 q.2.2.1 q.2.2.2.1 q.2.2.2.2 := by
      refine am_allc (am_ck_V (n := 1) X hEs hE (km10_ch hE) (hg_good (gw_mem 1147 (by decide +kernel))) rfl (List.mem_cons_of_mem _ (gw_mem 76 (by decide +kernel))) (List.mem_cons_of_mem _ (gw_mem 1144 (by decide +kernel))) (List.mem_cons_of_mem _ (gw_mem 1146 (by decide +kernel))) (List.mem_cons_of_mem _ (gw_mem 21 (by decide +kernel))) hm_pa (by decide +kernel) ⟨Nat.le_trans (by decide) hR1.1, Nat.le_trans (by decide) hR1.2⟩ (kd10_blanksFrom_ok (6, .invokevirtual 114, 3) (List.mem_of_getElem? (i := 6) rfl))) (am_allc (am_ck_S (n := 1) X hEs hE (km10_isBlank hE) (hg_good (gw_mem 1168 (by decide +kernel))) rfl (List.mem_cons_of_mem _ (gw_mem 76 (by decide +kernel))) (List.mem_cons_of_mem _ (gw_mem 1166 (by decide +kernel))) (List.mem_cons_of_mem _ (gw_mem 1167 (by decide +kernel))) (by decide +kernel) ⟨Nat.le_trans (by decide) hR1.1, Nat.le_trans (by decide) hR1.2⟩ (kd10_blanksFrom_ok (9, .invokestatic 117, 3) (List.mem_of_getElem? (i := 7) rfl))) (am_all0))
    exact hz _ (am_as_mem hq)
noncomputable def ki10_spells : List (Nat × Option (List Nat) × Nat × (List am_V → List am_C → Prop) × am_M) := [(7, none, 2, pr10_ch, fm10_ch), (19, none, 2, pr10_ch, fm10_ch), (31, none, 2, pr10_ch, fm10_ch), (60, none, 2, pr10_ch, fm10_ch), (77, none, 2, pr10_ch, fm10_ch), (107, none, 2, pr10_ch, fm10_ch)]
noncomputable def kb10_spells : am_B := (kd10_spells, am_as kf10, hn_ty, fun _ => none, fun _ => none, am_as ki10_spells, fun _ => none, 5, 11, (some .boolean))
def fn10_spells_c115 (s : hs) (v1 : Int32) (v2 : Int32) (v3 : Int32) (v4 : Int32) (v5 : Int32) (v6 : Int32) (v7 : Int32) (v8 : Int32) (v9 : Int32) (v10 : Int32) : Int32 := (1 : Int32)
def wp10_spells_c115 (s : hs) (v1 : Int32) (v2 : Int32) (v3 : Int32) (v4 : Int32) (v5 : Int32) (v6 : Int32) (v7 : Int32) (v8 : Int32) (v9 : Int32) (v10 : Int32) : Prop := True
set_option maxRecDepth 100000 in
set_option maxHeartbeats 4000000 in
theorem rc10_spells_115 (s : hs) (v1 : Int32) (v2 : Int32) (v3 : Int32) (v4 : Int32) (v5 : Int32) (v6 : Int32) (v7 : Int32) (v8 : Int32) (v9 : Int32) (v10 : Int32) (hp : wp10_spells_c115 s v1 v2 v3 v4 v5 v6 v7 v8 v9 v10) : am_lf (am_mk kb10_spells 0 0 22) [43, 68, 85, 89, 115] (115, [some (.inr (.inl 0)), some (.inl v1), some (.inl v2), some (.inl v3), some (.inl v4), some (.inl v5), some (.inl v6), some (.inl v7), some (.inl v8), some (.inl v9), some (.inl v10)], [], hm_w s, 0, 0) = some (some (.inl (fn10_spells_c115 s v1 v2 v3 v4 v5 v6 v7 v8 v9 v10)), hm_w s) := by
  unfold wp10_spells_c115 at hp
  refine am_lf_eq ?_
  generalize am_lf (am_mk kb10_spells 0 0 22) [43, 68, 85, 89, 115] = kt
  rfl
def fn10_spells_c85 (s : hs) (v1 : Int32) (v2 : Int32) (v3 : Int32) (v4 : Int32) (v5 : Int32) (v6 : Int32) (v7 : Int32) (v8 : Int32) (v9 : Int32) (v10 : Int32) : Int32 := (if v3 < (6 : Int32) then (fn10_spells_c115 s v1 v2 v3 v4 v5 v6 v7 v8 v9 (1 : Int32)) else (if (fn10_ch s (v1 + (5 : Int32))) = v9 then (fn10_spells_c115 s v1 v2 v3 v4 v5 v6 v7 v8 v9 (1 : Int32)) else (0 : Int32)))
def wp10_spells_c85 (s : hs) (v1 : Int32) (v2 : Int32) (v3 : Int32) (v4 : Int32) (v5 : Int32) (v6 : Int32) (v7 : Int32) (v8 : Int32) (v9 : Int32) (v10 : Int32) : Prop := ((v3 < (6 : Int32) → (wp10_spells_c115 s v1 v2 v3 v4 v5 v6 v7 v8 v9 (1 : Int32))) ∧ (¬ v3 < (6 : Int32) → ((wp10_ch s (v1 + (5 : Int32))) ∧ (((fn10_ch s (v1 + (5 : Int32))) = v9 → (wp10_spells_c115 s v1 v2 v3 v4 v5 v6 v7 v8 v9 (1 : Int32))) ∧ (¬ (fn10_ch s (v1 + (5 : Int32))) = v9 → True)))))
set_option maxRecDepth 100000 in
set_option maxHeartbeats 4000000 in
theorem rc10_spells_85 (s : hs) (v1 : Int32) (v2 : Int32) (v3 : Int32) (v4 : Int32) (v5 : Int32) (v6 : Int32) (v7 : Int32) (v8 : Int32) (v9 : Int32) (v10 : Int32) (hp : wp10_spells_c85 s v1 v2 v3 v4 v5 v6 v7 v8 v9 v10) : am_lf (am_mk kb10_spells 0 0 22) [43, 68, 85, 89, 115] (85, [some (.inr (.inl 0)), some (.inl v1), some (.inl v2), some (.inl v3), some (.inl v4), some (.inl v5), some (.inl v6), some (.inl v7), some (.inl v8), some (.inl v9), some (.inl v10)], [], hm_w s, 0, 0) = some (some (.inl (fn10_spells_c85 s v1 v2 v3 v4 v5 v6 v7 v8 v9 v10)), hm_w s) := by
  unfold wp10_spells_c85 at hp
  have i115 := @rc10_spells_115
  refine am_lf_eq ?_
  generalize am_lf (am_mk kb10_spells 0 0 22) [43, 68, 85, 89, 115] = kt at i115 ⊢
  refine am_if (c := v3 < (6 : Int32)) (fun h1 => ?_) (fun h1 => ?_)
  · have q1 := hp.1 h1
    have e : fn10_spells_c85 s v1 v2 v3 v4 v5 v6 v7 v8 v9 v10 = fn10_spells_c115 s v1 v2 v3 v4 v5 v6 v7 v8 v9 (1 : Int32) := by
      rw [fn10_spells_c85]
      rw [if_pos h1]
    rw [e]
    exact i115 s v1 v2 v3 v4 v5 v6 v7 v8 v9 (1 : Int32)  q1
  · have q1 := hp.2 h1
    refine am_cx (pre := pr10_ch) (f := fm10_ch) (r := (some (.inl (fn10_ch s (v1 + (5 : Int32)))), hm_w s, 0, 0)) ?_ ?_ ?_
    · exact ⟨s, [(v1 + (5 : Int32))], rfl, rfl, q1.1⟩
    · rfl
    refine am_if (c := (fn10_ch s (v1 + (5 : Int32))) = v9) (fun h2 => ?_) (fun h2 => ?_)
    · have q2 := q1.2.1 h2
      have e : fn10_spells_c85 s v1 v2 v3 v4 v5 v6 v7 v8 v9 v10 = fn10_spells_c115 s v1 v2 v3 v4 v5 v6 v7 v8 v9 (1 : Int32) := by
        rw [fn10_spells_c85]
        rw [if_neg h1, if_pos h2]
      rw [e]
      exact i115 s v1 v2 v3 v4 v5 v6 v7 v8 v9 (1 : Int32)  q2
    · have e : fn10_spells_c85 s v1 v2 v3 v4 v5 v6 v7 v8 v9 v10 = (0 : Int32) := by
        rw [fn10_spells_c85]
        rw [if_neg h1, if_neg h2]
      rw [e] <;> rfl
def fn10_spells_c89 (s : hs) (v1 : Int32) (v2 : Int32) (v3 : Int32) (v4 : Int32) (v5 : Int32) (v6 : Int32) (v7 : Int32) (v8 : Int32) (v9 : Int32) (v10 : Int32) : Int32 := (0 : Int32)
def wp10_spells_c89 (s : hs) (v1 : Int32) (v2 : Int32) (v3 : Int32) (v4 : Int32) (v5 : Int32) (v6 : Int32) (v7 : Int32) (v8 : Int32) (v9 : Int32) (v10 : Int32) : Prop := True
set_option maxRecDepth 100000 in
set_option maxHeartbeats 4000000 in
theorem rc10_spells_89 (s : hs) (v1 : Int32) (v2 : Int32) (v3 : Int32) (v4 : Int32) (v5 : Int32) (v6 : Int32) (v7 : Int32) (v8 : Int32) (v9 : Int32) (v10 : Int32) (hp : wp10_spells_c89 s v1 v2 v3 v4 v5 v6 v7 v8 v9 v10) : am_lf (am_mk kb10_spells 0 0 22) [43, 68, 85, 89, 115] (89, [some (.inr (.inl 0)), some (.inl v1), some (.inl v2), some (.inl v3), some (.inl v4), some (.inl v5), some (.inl v6), some (.inl v7), some (.inl v8), some (.inl v9), some (.inl v10)], [], hm_w s, 0, 0) = some (some (.inl (fn10_spells_c89 s v1 v2 v3 v4 v5 v6 v7 v8 v9 v10)), hm_w s) := by
  unfold wp10_spells_c89 at hp
  refine am_lf_eq ?_
  generalize am_lf (am_mk kb10_spells 0 0 22) [43, 68, 85, 89, 115] = kt
  rfl
def fn10_spells_c68 (s : hs) (v1 : Int32) (v2 : Int32) (v3 : Int32) (v4 : Int32) (v5 : Int32) (v6 : Int32) (v7 : Int32) (v8 : Int32) (v9 : Int32) (v10 : Int32) : Int32 := (if v3 < (5 : Int32) then (fn10_spells_c85 s v1 v2 v3 v4 v5 v6 v7 v8 v9 v10) else (if (fn10_ch s (v1 + (4 : Int32))) = v8 then (fn10_spells_c85 s v1 v2 v3 v4 v5 v6 v7 v8 v9 v10) else (fn10_spells_c89 s v1 v2 v3 v4 v5 v6 v7 v8 v9 v10)))
def wp10_spells_c68 (s : hs) (v1 : Int32) (v2 : Int32) (v3 : Int32) (v4 : Int32) (v5 : Int32) (v6 : Int32) (v7 : Int32) (v8 : Int32) (v9 : Int32) (v10 : Int32) : Prop := ((v3 < (5 : Int32) → (wp10_spells_c85 s v1 v2 v3 v4 v5 v6 v7 v8 v9 v10)) ∧ (¬ v3 < (5 : Int32) → ((wp10_ch s (v1 + (4 : Int32))) ∧ (((fn10_ch s (v1 + (4 : Int32))) = v8 → (wp10_spells_c85 s v1 v2 v3 v4 v5 v6 v7 v8 v9 v10)) ∧ (¬ (fn10_ch s (v1 + (4 : Int32))) = v8 → (wp10_spells_c89 s v1 v2 v3 v4 v5 v6 v7 v8 v9 v10))))))
set_option maxRecDepth 100000 in
set_option maxHeartbeats 4000000 in
theorem rc10_spells_68 (s : hs) (v1 : Int32) (v2 : Int32) (v3 : Int32) (v4 : Int32) (v5 : Int32) (v6 : Int32) (v7 : Int32) (v8 : Int32) (v9 : Int32) (v10 : Int32) (hp : wp10_spells_c68 s v1 v2 v3 v4 v5 v6 v7 v8 v9 v10) : am_lf (am_mk kb10_spells 0 0 22) [43, 68, 85, 89, 115] (68, [some (.inr (.inl 0)), some (.inl v1), some (.inl v2), some (.inl v3), some (.inl v4), some (.inl v5), some (.inl v6), some (.inl v7), some (.inl v8), some (.inl v9), some (.inl v10)], [], hm_w s, 0, 0) = some (some (.inl (fn10_spells_c68 s v1 v2 v3 v4 v5 v6 v7 v8 v9 v10)), hm_w s) := by
  unfold wp10_spells_c68 at hp
  have i85 := @rc10_spells_85
  have i89 := @rc10_spells_89
  refine am_lf_eq ?_
  generalize am_lf (am_mk kb10_spells 0 0 22) [43, 68, 85, 89, 115] = kt at i85 i89 ⊢
  refine am_if (c := v3 < (5 : Int32)) (fun h1 => ?_) (fun h1 => ?_)
  · have q1 := hp.1 h1
    have e : fn10_spells_c68 s v1 v2 v3 v4 v5 v6 v7 v8 v9 v10 = fn10_spells_c85 s v1 v2 v3 v4 v5 v6 v7 v8 v9 v10 := by
      rw [fn10_spells_c68]
      rw [if_pos h1]
    rw [e]
    exact i85 s v1 v2 v3 v4 v5 v6 v7 v8 v9 v10  q1
  · have q1 := hp.2 h1
    refine am_cx (pre := pr10_ch) (f := fm10_ch) (r := (some (.inl (fn10_ch s (v1 + (4 : Int32)))), hm_w s, 0, 0)) ?_ ?_ ?_
    · exact ⟨s, [(v1 + (4 : Int32))], rfl, rfl, q1.1⟩
    · rfl
    refine am_if (c := (fn10_ch s (v1 + (4 : Int32))) = v8) (fun h2 => ?_) (fun h2 => ?_)
    · have q2 := q1.2.1 h2
      have e : fn10_spells_c68 s v1 v2 v3 v4 v5 v6 v7 v8 v9 v10 = fn10_spells_c85 s v1 v2 v3 v4 v5 v6 v7 v8 v9 v10 := by
        rw [fn10_spells_c68]
        rw [if_neg h1, if_pos h2]
      rw [e]
      exact i85 s v1 v2 v3 v4 v5 v6 v7 v8 v9 v10  q2
    · have q2 := q1.2.2 h2
      have e : fn10_spells_c68 s v1 v2 v3 v4 v5 v6 v7 v8 v9 v10 = fn10_spells_c89 s v1 v2 v3 v4 v5 v6 v7 v8 v9 v10 := by
        rw [fn10_spells_c68]
        rw [if_neg h1, if_neg h2]
      rw [e]
      exact i89 s v1 v2 v3 v4 v5 v6 v7 v8 v9 v10  q2
def fn10_spells_c43 (s : hs) (v1 : Int32) (v2 : Int32) (v3 : Int32) (v4 : Int32) (v5 : Int32) (v6 : Int32) (v7 : Int32) (v8 : Int32) (v9 : Int32) : Int32 := (fn10_spells_c89 s v1 v2 v3 v4 v5 v6 v7 v8 v9 (0 : Int32))
def wp10_spells_c43 (s : hs) (v1 : Int32) (v2 : Int32) (v3 : Int32) (v4 : Int32) (v5 : Int32) (v6 : Int32) (v7 : Int32) (v8 : Int32) (v9 : Int32) : Prop := (wp10_spells_c89 s v1 v2 v3 v4 v5 v6 v7 v8 v9 (0 : Int32))
set_option maxRecDepth 100000 in
set_option maxHeartbeats 4000000 in
theorem rc10_spells_43 (s : hs) (v1 : Int32) (v2 : Int32) (v3 : Int32) (v4 : Int32) (v5 : Int32) (v6 : Int32) (v7 : Int32) (v8 : Int32) (v9 : Int32) (j10 : Option am_V) (hp : wp10_spells_c43 s v1 v2 v3 v4 v5 v6 v7 v8 v9) : am_lf (am_mk kb10_spells 0 0 22) [43, 68, 85, 89, 115] (43, [some (.inr (.inl 0)), some (.inl v1), some (.inl v2), some (.inl v3), some (.inl v4), some (.inl v5), some (.inl v6), some (.inl v7), some (.inl v8), some (.inl v9), j10], [], hm_w s, 0, 0) = some (some (.inl (fn10_spells_c43 s v1 v2 v3 v4 v5 v6 v7 v8 v9)), hm_w s) := by
  unfold wp10_spells_c43 at hp
  have i89 := @rc10_spells_89
  refine am_lf_eq ?_
  generalize am_lf (am_mk kb10_spells 0 0 22) [43, 68, 85, 89, 115] = kt at i89 ⊢
  exact i89 s v1 v2 v3 v4 v5 v6 v7 v8 v9 (0 : Int32)  hp
def fn10_spells (s : hs) (p0 : Int32) (p1 : Int32) (p2 : Int32) (p3 : Int32) (p4 : Int32) (p5 : Int32) (p6 : Int32) (p7 : Int32) (p8 : Int32) : Int32 := (if p1 = p2 then (if (fn10_ch s p0) = p3 then (if (fn10_ch s (p0 + (1 : Int32))) = p4 then (if (fn10_ch s (p0 + (2 : Int32))) = p5 then (if p2 < (4 : Int32) then (fn10_spells_c68 s p0 p1 p2 p3 p4 p5 p6 p7 p8 (1 : Int32)) else (if (fn10_ch s (p0 + (3 : Int32))) = p6 then (fn10_spells_c68 s p0 p1 p2 p3 p4 p5 p6 p7 p8 (1 : Int32)) else (fn10_spells_c89 s p0 p1 p2 p3 p4 p5 p6 p7 p8 (1 : Int32)))) else (fn10_spells_c43 s p0 p1 p2 p3 p4 p5 p6 p7 p8)) else (fn10_spells_c43 s p0 p1 p2 p3 p4 p5 p6 p7 p8)) else (fn10_spells_c43 s p0 p1 p2 p3 p4 p5 p6 p7 p8)) else (fn10_spells_c43 s p0 p1 p2 p3 p4 p5 p6 p7 p8))
def wp10_spells (s : hs) (p0 : Int32) (p1 : Int32) (p2 : Int32) (p3 : Int32) (p4 : Int32) (p5 : Int32) (p6 : Int32) (p7 : Int32) (p8 : Int32) : Prop := ((p1 = p2 → ((wp10_ch s p0) ∧ (((fn10_ch s p0) = p3 → ((wp10_ch s (p0 + (1 : Int32))) ∧ (((fn10_ch s (p0 + (1 : Int32))) = p4 → ((wp10_ch s (p0 + (2 : Int32))) ∧ (((fn10_ch s (p0 + (2 : Int32))) = p5 → ((p2 < (4 : Int32) → (wp10_spells_c68 s p0 p1 p2 p3 p4 p5 p6 p7 p8 (1 : Int32))) ∧ (¬ p2 < (4 : Int32) → ((wp10_ch s (p0 + (3 : Int32))) ∧ (((fn10_ch s (p0 + (3 : Int32))) = p6 → (wp10_spells_c68 s p0 p1 p2 p3 p4 p5 p6 p7 p8 (1 : Int32))) ∧ (¬ (fn10_ch s (p0 + (3 : Int32))) = p6 → (wp10_spells_c89 s p0 p1 p2 p3 p4 p5 p6 p7 p8 (1 : Int32)))))))) ∧ (¬ (fn10_ch s (p0 + (2 : Int32))) = p5 → (wp10_spells_c43 s p0 p1 p2 p3 p4 p5 p6 p7 p8))))) ∧ (¬ (fn10_ch s (p0 + (1 : Int32))) = p4 → (wp10_spells_c43 s p0 p1 p2 p3 p4 p5 p6 p7 p8))))) ∧ (¬ (fn10_ch s p0) = p3 → (wp10_spells_c43 s p0 p1 p2 p3 p4 p5 p6 p7 p8))))) ∧ (¬ p1 = p2 → (wp10_spells_c43 s p0 p1 p2 p3 p4 p5 p6 p7 p8)))
set_option maxRecDepth 100000 in
set_option maxHeartbeats 4000000 in
theorem re10_spells (s : hs) (p0 : Int32) (p1 : Int32) (p2 : Int32) (p3 : Int32) (p4 : Int32) (p5 : Int32) (p6 : Int32) (p7 : Int32) (p8 : Int32) (hp : wp10_spells s p0 p1 p2 p3 p4 p5 p6 p7 p8) : am_lf (am_mk kb10_spells 0 0 22) [43, 68, 85, 89, 115] (0, am_L0 [.inr (.inl 0), .inl p0, .inl p1, .inl p2, .inl p3, .inl p4, .inl p5, .inl p6, .inl p7, .inl p8] 11, [], hm_w s, 0, 0) = some (some (.inl (fn10_spells s p0 p1 p2 p3 p4 p5 p6 p7 p8)), hm_w s) := by
  unfold wp10_spells at hp
  have i43 := @rc10_spells_43
  have i68 := @rc10_spells_68
  have i89 := @rc10_spells_89
  refine am_lf_eq ?_
  generalize am_lf (am_mk kb10_spells 0 0 22) [43, 68, 85, 89, 115] = kt at i43 i68 i89 ⊢
  refine am_if (c := p1 = p2) (fun h1 => ?_) (fun h1 => ?_)
  · have q1 := hp.1 h1
    refine am_cx (pre := pr10_ch) (f := fm10_ch) (r := (some (.inl (fn10_ch s p0)), hm_w s, 0, 0)) ?_ ?_ ?_
    · exact ⟨s, [p0], rfl, rfl, q1.1⟩
    · rfl
    refine am_if (c := (fn10_ch s p0) = p3) (fun h2 => ?_) (fun h2 => ?_)
    · have q2 := q1.2.1 h2
      refine am_cx (pre := pr10_ch) (f := fm10_ch) (r := (some (.inl (fn10_ch s (p0 + (1 : Int32)))), hm_w s, 0, 0)) ?_ ?_ ?_
      · exact ⟨s, [(p0 + (1 : Int32))], rfl, rfl, q2.1⟩
      · rfl
      refine am_if (c := (fn10_ch s (p0 + (1 : Int32))) = p4) (fun h3 => ?_) (fun h3 => ?_)
      · have q3 := q2.2.1 h3
        refine am_cx (pre := pr10_ch) (f := fm10_ch) (r := (some (.inl (fn10_ch s (p0 + (2 : Int32)))), hm_w s, 0, 0)) ?_ ?_ ?_
        · exact ⟨s, [(p0 + (2 : Int32))], rfl, rfl, q3.1⟩
        · rfl
        refine am_if (c := (fn10_ch s (p0 + (2 : Int32))) = p5) (fun h4 => ?_) (fun h4 => ?_)
        · have q4 := q3.2.1 h4
          refine am_if (c := p2 < (4 : Int32)) (fun h5 => ?_) (fun h5 => ?_)
          · have q5 := q4.1 h5
            have e : fn10_spells s p0 p1 p2 p3 p4 p5 p6 p7 p8 = fn10_spells_c68 s p0 p1 p2 p3 p4 p5 p6 p7 p8 (1 : Int32) := by
              rw [fn10_spells]
              rw [if_pos h1, if_pos h2, if_pos h3, if_pos h4, if_pos h5]
            rw [e]
            exact i68 s p0 p1 p2 p3 p4 p5 p6 p7 p8 (1 : Int32)  q5
          · have q5 := q4.2 h5
            refine am_cx (pre := pr10_ch) (f := fm10_ch) (r := (some (.inl (fn10_ch s (p0 + (3 : Int32)))), hm_w s, 0, 0)) ?_ ?_ ?_
            · exact ⟨s, [(p0 + (3 : Int32))], rfl, rfl, q5.1⟩
            · rfl
            refine am_if (c := (fn10_ch s (p0 + (3 : Int32))) = p6) (fun h6 => ?_) (fun h6 => ?_)
            · have q6 := q5.2.1 h6
              have e : fn10_spells s p0 p1 p2 p3 p4 p5 p6 p7 p8 = fn10_spells_c68 s p0 p1 p2 p3 p4 p5 p6 p7 p8 (1 : Int32) := by
                rw [fn10_spells]
                rw [if_pos h1, if_pos h2, if_pos h3, if_pos h4, if_neg h5, if_pos h6]
              rw [e]
              exact i68 s p0 p1 p2 p3 p4 p5 p6 p7 p8 (1 : Int32)  q6
            · have q6 := q5.2.2 h6
              have e : fn10_spells s p0 p1 p2 p3 p4 p5 p6 p7 p8 = fn10_spells_c89 s p0 p1 p2 p3 p4 p5 p6 p7 p8 (1 : Int32) := by
                rw [fn10_spells]
                rw [if_pos h1, if_pos h2, if_pos h3, if_pos h4, if_neg h5, if_neg h6]
              rw [e]
              exact i89 s p0 p1 p2 p3 p4 p5 p6 p7 p8 (1 : Int32)  q6
        · have q4 := q3.2.2 h4
          have e : fn10_spells s p0 p1 p2 p3 p4 p5 p6 p7 p8 = fn10_spells_c43 s p0 p1 p2 p3 p4 p5 p6 p7 p8 := by
            rw [fn10_spells]
            rw [if_pos h1, if_pos h2, if_pos h3, if_neg h4]
          rw [e]
          exact i43 s p0 p1 p2 p3 p4 p5 p6 p7 p8 _ q4
      · have q3 := q2.2.2 h3
        have e : fn10_spells s p0 p1 p2 p3 p4 p5 p6 p7 p8 = fn10_spells_c43 s p0 p1 p2 p3 p4 p5 p6 p7 p8 := by
          rw [fn10_spells]
          rw [if_pos h1, if_pos h2, if_neg h3]
        rw [e]
        exact i43 s p0 p1 p2 p3 p4 p5 p6 p7 p8 _ q3
    · have q2 := q1.2.2 h2
      have e : fn10_spells s p0 p1 p2 p3 p4 p5 p6 p7 p8 = fn10_spells_c43 s p0 p1 p2 p3 p4 p5 p6 p7 p8 := by
        rw [fn10_spells]
        rw [if_pos h1, if_neg h2]
      rw [e]
      exact i43 s p0 p1 p2 p3 p4 p5 p6 p7 p8 _ q2
  · have q1 := hp.2 h1
    have e : fn10_spells s p0 p1 p2 p3 p4 p5 p6 p7 p8 = fn10_spells_c43 s p0 p1 p2 p3 p4 p5 p6 p7 p8 := by
      rw [fn10_spells]
      rw [if_neg h1]
    rw [e]
    exact i43 s p0 p1 p2 p3 p4 p5 p6 p7 p8 _ q1
abbrev pr10_spells : List am_V → List am_C → Prop := hm_pr (fun s is => match is with
  | [p0, p1, p2, p3, p4, p5, p6, p7, p8] => wp10_spells s p0 p1 p2 p3 p4 p5 p6 p7 p8
  | _ => False)
def fm10_spells : am_M := hm_fn (fun s is => match is with
  | [p0, p1, p2, p3, p4, p5, p6, p7, p8] => (fn10_spells s p0 p1 p2 p3 p4 p5 p6 p7 p8, s)
  | _ => (0, s))
set_option maxRecDepth 100000 in
set_option maxHeartbeats 4000000 in
theorem rn10_spells : ∀ (a : List am_V) (w : List am_C), pr10_spells a w → ∃ n, am_ev (am_mk kb10_spells (fm10_spells a w).2.2.1 (fm10_spells a w).2.2.2 w.length) [43, 68, 85, 89, 115] n (0, am_L0 a 11, [], w, 0, 0) = some ((fm10_spells a w).1, (fm10_spells a w).2.1) := by
  rintro a w ⟨s, is, rfl, rfl, hp⟩
  rcases is with _ | ⟨p0, _ | ⟨p1, _ | ⟨p2, _ | ⟨p3, _ | ⟨p4, _ | ⟨p5, _ | ⟨p6, _ | ⟨p7, _ | ⟨p8, _ | ⟨z, is⟩⟩⟩⟩⟩⟩⟩⟩⟩⟩
  · exact hp.elim
  · exact hp.elim
  · exact hp.elim
  · exact hp.elim
  · exact hp.elim
  · exact hp.elim
  · exact hp.elim
  · exact hp.elim
  · exact hp.elim
  · exact am_lf_ev (re10_spells s p0 p1 p2 p3 p4 p5 p6 p7 p8 hp)
  · exact hp.elim
theorem rl10_spells : ∀ (a : List am_V) (w : List am_C), pr10_spells a w → a.length ≤ 11 := by
  rintro a w ⟨s, is, rfl, rfl, hp⟩
  rcases is with _ | ⟨p0, _ | ⟨p1, _ | ⟨p2, _ | ⟨p3, _ | ⟨p4, _ | ⟨p5, _ | ⟨p6, _ | ⟨p7, _ | ⟨p8, _ | ⟨z, is⟩⟩⟩⟩⟩⟩⟩⟩⟩⟩
  · exact hp.elim
  · exact hp.elim
  · exact hp.elim
  · exact hp.elim
  · exact hp.elim
  · exact hp.elim
  · exact hp.elim
  · exact hp.elim
  · exact hp.elim
  · exact Nat.le_of_ble_eq_true rfl
  · exact hp.elim
set_option maxRecDepth 100000 in
set_option maxHeartbeats 4000000 in
theorem km10_spells {l : Launch} {E : (Nat → Prop) → State → Prop} {D : va_G} {ou : Nat → Nat} {ca : Nat → ClassId} (hE : am_EC E) : hg_Met l E D ou ca hy10_spells prog_12_method_18_code 11 (some .boolean) 1 pr10_spells fm10_spells := by
  refine am_met (B := kb10_spells) (cuts := [43, 68, 85, 89, 115]) (nt := 5) (by decide +kernel) rfl rfl (hg_tys_ok ca) ?_ (by decide) rl10_spells ?_ rn10_spells
  · exact fun t ht => List.mem_cons_of_mem _ (hg_arr t ht)
  · intro a w hp ad p e R s m args below meth c hR X hEs hnm
    have hR1 : 1 ≤ R.frames ∧ 40 ≤ R.locals := by rw [hR]; exact ⟨Nat.le_refl _, Nat.le_refl _⟩
    refine ⟨kd10_spells_ok, fun index ci fi mode hq => kf10_ok X.2.2.2.2.1 (index, ci, fi, mode) (am_as_mem hq), fun index ci fs hq => (am_no hq).elim, fun x v hq => (am_no hq).elim, ?_, fun o n f hq => (am_no hq).elim, rfl, rfl, by rw [hR]; exact Nat.le_refl _, by rw [hR]; exact Nat.le_refl _⟩
    intro pc sel n0 pre0 f0 hq
    have hz : ∀ q ∈ ki10_spells, am_CK p l e R s m args below meth c D hn_cl (va_A (am_w ad ou ca w) s.heap.size) ou ca 11 q.1 q.2.2.1 q.2.2.2.1 q.2.2.2.2 := by
      refine am_allc (am_ck_V (n := 1) X hEs hE (km10_ch hE) (hg_good (gw_mem 1147 (by decide +kernel))) rfl (List.mem_cons_of_mem _ (gw_mem 76 (by decide +kernel))) (List.mem_cons_of_mem _ (gw_mem 1144 (by decide +kernel))) (List.mem_cons_of_mem _ (gw_mem 1146 (by decide +kernel))) (List.mem_cons_of_mem _ (gw_mem 21 (by decide +kernel))) hm_pa (by decide +kernel) ⟨Nat.le_trans (by decide) hR1.1, Nat.le_trans (by decide) hR1.2⟩ (kd10_spells_ok (7, .invokevirtual 114, 3) (List.mem_of_getElem? (i := 5) rfl))) (am_allc (am_ck_V (n := 1) X hEs hE (km10_ch hE) (hg_good (gw_mem 1147 (by decide +kernel))) rfl (List.mem_cons_of_mem _ (gw_mem 76 (by decide +kernel))) (List.mem_cons_of_mem _ (gw_mem 1144 (by decide +kernel))) (List.mem_cons_of_mem _ (gw_mem 1146 (by decide +kernel))) (List.mem_cons_of_mem _ (gw_mem 21 (by decide +kernel))) hm_pa (by decide +kernel) ⟨Nat.le_trans (by decide) hR1.1, Nat.le_trans (by decide) hR1.2⟩ (kd10_spells_ok (19, .invokevirtual 114, 3) (List.mem_of_getElem? (i := 12) rfl))) (am_allc (am_ck_V (n := 1) X hEs hE (km10_ch hE) (hg_good (gw_mem 1147 (by decide +kernel))) rfl (List.mem_cons_of_mem _ (gw_mem 76 (by decide +kernel))) (List.mem_cons_of_mem _ (gw_mem 1144 (by decide +kernel))) (List.mem_cons_of_mem _ (gw_mem 1146 (by decide +kernel))) (List.mem_cons_of_mem _ (gw_mem 21 (by decide +kernel))) hm_pa (by decide +kernel) ⟨Nat.le_trans (by decide) hR1.1, Nat.le_trans (by decide) hR1.2⟩ (kd10_spells_ok (31, .invokevirtual 114, 3) (List.mem_of_getElem? (i := 19) rfl))) (am_allc (am_ck_V (n := 1) X hEs hE (km10_ch hE) (hg_good (gw_mem 1147 (by decide +kernel))) rfl (List.mem_cons_of_mem _ (gw_mem 76 (by decide +kernel))) (List.mem_cons_of_mem _ (gw_mem 1144 (by decide +kernel))) (List.mem_cons_of_mem _ (gw_mem 1146 (by decide +kernel))) (List.mem_cons_of_mem _ (gw_mem 21 (by decide +kernel))) hm_pa (by decide +kernel) ⟨Nat.le_trans (by decide) hR1.1, Nat.le_trans (by decide) hR1.2⟩ (kd10_spells_ok (60, .invokevirtual 114, 3) (List.mem_of_getElem? (i := 35) rfl))) (am_allc (am_ck_V (n := 1) X hEs hE (km10_ch hE) (hg_good (gw_mem 1147 (by decide +kernel))) rfl (List.mem_cons_of_mem _ (gw_mem 76 (by decide +kernel))) (List.mem_cons_of_mem _ (gw_mem 1144 (by decide +kernel))) (List.mem_cons_of_mem _ (gw_mem 1146 (by decide +kernel))) (List.mem_cons_of_mem _ (gw_mem 21 (by decide +kernel))) hm_pa (by decide +kernel) ⟨Nat.le_trans (by decide) hR1.1, Nat.le_trans (by decide) hR1.2⟩ (kd10_spells_ok (77, .invokevirtual 114, 3) (List.mem_of_getElem? (i := 45) rfl))) (am_allc (am_ck_V (n := 1) X hEs hE (km10_ch hE) (hg_good (gw_mem 1147 (by decide +kernel))) rfl (List.mem_cons_of_mem _ (gw_mem 76 (by decide +kernel))) (List.mem_cons_of_mem _ (gw_mem 1144 (by decide +kernel))) (List.mem_cons_of_mem _ (gw_mem 1146 (by decide +kernel))) (List.mem_cons_of_mem _ (gw_mem 21 (by decide +kernel))) hm_pa (by decide +kernel) ⟨Nat.le_trans (by decide) hR1.1, Nat.le_trans (by decide) hR1.2⟩ (kd10_spells_ok (107, .invokevirtual 114, 3) (List.mem_of_getElem? (i := 61) rfl))) (am_all0))))))
    exact hz _ (am_as_mem hq)
noncomputable def ki10_isScript : List (Nat × Option (List Nat) × Nat × (List am_V → List am_C → Prop) × am_M) := [(17, none, 10, pr10_spells, fm10_spells)]
noncomputable def kb10_isScript : am_B := (kd10_isScript, am_as kf10, hn_ty, fun _ => none, fun _ => none, am_as ki10_isScript, fun _ => none, 5, 3, (some .boolean))
def fn10_isScript (s : hs) (p0 : Int32) (p1 : Int32) : Int32 := (fn10_spells s p0 p1 (6 : Int32) (115 : Int32) (99 : Int32) (114 : Int32) (105 : Int32) (112 : Int32) (116 : Int32))
def wp10_isScript (s : hs) (p0 : Int32) (p1 : Int32) : Prop := ((wp10_spells s p0 p1 (6 : Int32) (115 : Int32) (99 : Int32) (114 : Int32) (105 : Int32) (112 : Int32) (116 : Int32)) ∧ (am_fit .boolean (.inl (fn10_spells s p0 p1 (6 : Int32) (115 : Int32) (99 : Int32) (114 : Int32) (105 : Int32) (112 : Int32) (116 : Int32))) = true))
set_option maxRecDepth 100000 in
set_option maxHeartbeats 4000000 in
theorem re10_isScript (s : hs) (p0 : Int32) (p1 : Int32) (hp : wp10_isScript s p0 p1) : am_lf (am_mk kb10_isScript 0 0 22) [] (0, am_L0 [.inr (.inl 0), .inl p0, .inl p1] 3, [], hm_w s, 0, 0) = some (some (.inl (fn10_isScript s p0 p1)), hm_w s) := by
  unfold wp10_isScript at hp
  refine am_lf_eq ?_
  generalize am_lf (am_mk kb10_isScript 0 0 22) [] = kt
  refine am_cx (pre := pr10_spells) (f := fm10_spells) (r := (some (.inl (fn10_spells s p0 p1 (6 : Int32) (115 : Int32) (99 : Int32) (114 : Int32) (105 : Int32) (112 : Int32) (116 : Int32))), hm_w s, 0, 0)) ?_ ?_ ?_
  · exact ⟨s, [p0, p1, (6 : Int32), (115 : Int32), (99 : Int32), (114 : Int32), (105 : Int32), (112 : Int32), (116 : Int32)], rfl, rfl, hp.1⟩
  · rfl
  refine am_ci (c := am_fit .boolean (.inl (fn10_spells s p0 p1 (6 : Int32) (115 : Int32) (99 : Int32) (114 : Int32) (105 : Int32) (112 : Int32) (116 : Int32))) = true) hp.2 ?_
  rfl
abbrev pr10_isScript : List am_V → List am_C → Prop := hm_pr (fun s is => match is with
  | [p0, p1] => wp10_isScript s p0 p1
  | _ => False)
def fm10_isScript : am_M := hm_fn (fun s is => match is with
  | [p0, p1] => (fn10_isScript s p0 p1, s)
  | _ => (0, s))
set_option maxRecDepth 100000 in
set_option maxHeartbeats 4000000 in
theorem rn10_isScript : ∀ (a : List am_V) (w : List am_C), pr10_isScript a w → ∃ n, am_ev (am_mk kb10_isScript (fm10_isScript a w).2.2.1 (fm10_isScript a w).2.2.2 w.length) [] n (0, am_L0 a 3, [], w, 0, 0) = some ((fm10_isScript a w).1, (fm10_isScript a w).2.1) := by
  rintro a w ⟨s, is, rfl, rfl, hp⟩
  rcases is with _ | ⟨p0, _ | ⟨p1, _ | ⟨z, is⟩⟩⟩
  · exact hp.elim
  · exact hp.elim
  · exact am_lf_ev (re10_isScript s p0 p1 hp)
  · exact hp.elim
theorem rl10_isScript : ∀ (a : List am_V) (w : List am_C), pr10_isScript a w → a.length ≤ 3 := by
  rintro a w ⟨s, is, rfl, rfl, hp⟩
  rcases is with _ | ⟨p0, _ | ⟨p1, _ | ⟨z, is⟩⟩⟩
  · exact hp.elim
  · exact hp.elim
  · exact Nat.le_of_ble_eq_true rfl
  · exact hp.elim
set_option maxRecDepth 100000 in
set_option maxHeartbeats 4000000 in
theorem km10_isScript {l : Launch} {E : (Nat → Prop) → State → Prop} {D : va_G} {ou : Nat → Nat} {ca : Nat → ClassId} (hE : am_EC E) : hg_Met l E D ou ca hy10_isScript prog_12_method_19_code 3 (some .boolean) 2 pr10_isScript fm10_isScript := by
  refine am_met (B := kb10_isScript) (cuts := []) (nt := 5) (by decide +kernel) rfl rfl (hg_tys_ok ca) ?_ (by decide) rl10_isScript ?_ rn10_isScript
  · exact fun t ht => List.mem_cons_of_mem _ (hg_arr t ht)
  · intro a w hp ad p e R s m args below meth c hR X hEs hnm
    have hR1 : 2 ≤ R.frames ∧ 80 ≤ R.locals := by rw [hR]; exact ⟨Nat.le_refl _, Nat.le_refl _⟩
    refine ⟨kd10_isScript_ok, fun index ci fi mode hq => kf10_ok X.2.2.2.2.1 (index, ci, fi, mode) (am_as_mem hq), fun index ci fs hq => (am_no hq).elim, fun x v hq => (am_no hq).elim, ?_, fun o n f hq => (am_no hq).elim, rfl, rfl, by rw [hR]; exact Nat.le_refl _, by rw [hR]; exact Nat.le_refl _⟩
    intro pc sel n0 pre0 f0 hq
    have hz : ∀ q ∈ ki10_isScript, am_CK p l e R s m args below meth c D hn_cl (va_A (am_w ad ou ca w) s.heap.size) ou ca 3 q.1 q.2.2.1 q.2.2.2.1 q.2.2.2.2 := by
      refine am_allc (am_ck_V (n := 9) X hEs hE (km10_spells hE) (hg_good (gw_mem 1176 (by decide +kernel))) rfl (List.mem_cons_of_mem _ (gw_mem 76 (by decide +kernel))) (List.mem_cons_of_mem _ (gw_mem 1173 (by decide +kernel))) (List.mem_cons_of_mem _ (gw_mem 1175 (by decide +kernel))) (List.mem_cons_of_mem _ (gw_mem 26 (by decide +kernel))) hm_pa (by decide +kernel) ⟨Nat.le_trans (by decide) hR1.1, Nat.le_trans (by decide) hR1.2⟩ (kd10_isScript_ok (17, .invokevirtual 120, 3) (List.mem_of_getElem? (i := 10) rfl))) (am_all0)
    exact hz _ (am_as_mem hq)
noncomputable def ki10_isStyle : List (Nat × Option (List Nat) × Nat × (List am_V → List am_C → Prop) × am_M) := [(16, none, 10, pr10_spells, fm10_spells)]
noncomputable def kb10_isStyle : am_B := (kd10_isStyle, am_as kf10, hn_ty, fun _ => none, fun _ => none, am_as ki10_isStyle, fun _ => none, 5, 3, (some .boolean))
def fn10_isStyle (s : hs) (p0 : Int32) (p1 : Int32) : Int32 := (fn10_spells s p0 p1 (5 : Int32) (115 : Int32) (116 : Int32) (121 : Int32) (108 : Int32) (101 : Int32) (101 : Int32))
def wp10_isStyle (s : hs) (p0 : Int32) (p1 : Int32) : Prop := ((wp10_spells s p0 p1 (5 : Int32) (115 : Int32) (116 : Int32) (121 : Int32) (108 : Int32) (101 : Int32) (101 : Int32)) ∧ (am_fit .boolean (.inl (fn10_spells s p0 p1 (5 : Int32) (115 : Int32) (116 : Int32) (121 : Int32) (108 : Int32) (101 : Int32) (101 : Int32))) = true))
set_option maxRecDepth 100000 in
set_option maxHeartbeats 4000000 in
theorem re10_isStyle (s : hs) (p0 : Int32) (p1 : Int32) (hp : wp10_isStyle s p0 p1) : am_lf (am_mk kb10_isStyle 0 0 22) [] (0, am_L0 [.inr (.inl 0), .inl p0, .inl p1] 3, [], hm_w s, 0, 0) = some (some (.inl (fn10_isStyle s p0 p1)), hm_w s) := by
  unfold wp10_isStyle at hp
  refine am_lf_eq ?_
  generalize am_lf (am_mk kb10_isStyle 0 0 22) [] = kt
  refine am_cx (pre := pr10_spells) (f := fm10_spells) (r := (some (.inl (fn10_spells s p0 p1 (5 : Int32) (115 : Int32) (116 : Int32) (121 : Int32) (108 : Int32) (101 : Int32) (101 : Int32))), hm_w s, 0, 0)) ?_ ?_ ?_
  · exact ⟨s, [p0, p1, (5 : Int32), (115 : Int32), (116 : Int32), (121 : Int32), (108 : Int32), (101 : Int32), (101 : Int32)], rfl, rfl, hp.1⟩
  · rfl
  refine am_ci (c := am_fit .boolean (.inl (fn10_spells s p0 p1 (5 : Int32) (115 : Int32) (116 : Int32) (121 : Int32) (108 : Int32) (101 : Int32) (101 : Int32))) = true) hp.2 ?_
  rfl
abbrev pr10_isStyle : List am_V → List am_C → Prop := hm_pr (fun s is => match is with
  | [p0, p1] => wp10_isStyle s p0 p1
  | _ => False)
def fm10_isStyle : am_M := hm_fn (fun s is => match is with
  | [p0, p1] => (fn10_isStyle s p0 p1, s)
  | _ => (0, s))
set_option maxRecDepth 100000 in
set_option maxHeartbeats 4000000 in
theorem rn10_isStyle : ∀ (a : List am_V) (w : List am_C), pr10_isStyle a w → ∃ n, am_ev (am_mk kb10_isStyle (fm10_isStyle a w).2.2.1 (fm10_isStyle a w).2.2.2 w.length) [] n (0, am_L0 a 3, [], w, 0, 0) = some ((fm10_isStyle a w).1, (fm10_isStyle a w).2.1) := by
  rintro a w ⟨s, is, rfl, rfl, hp⟩
  rcases is with _ | ⟨p0, _ | ⟨p1, _ | ⟨z, is⟩⟩⟩
  · exact hp.elim
  · exact hp.elim
  · exact am_lf_ev (re10_isStyle s p0 p1 hp)
  · exact hp.elim
theorem rl10_isStyle : ∀ (a : List am_V) (w : List am_C), pr10_isStyle a w → a.length ≤ 3 := by
  rintro a w ⟨s, is, rfl, rfl, hp⟩
  rcases is with _ | ⟨p0, _ | ⟨p1, _ | ⟨z, is⟩⟩⟩
  · exact hp.elim
  · exact hp.elim
  · exact Nat.le_of_ble_eq_true rfl
  · exact hp.elim
set_option maxRecDepth 100000 in
set_option maxHeartbeats 4000000 in
theorem km10_isStyle {l : Launch} {E : (Nat → Prop) → State → Prop} {D : va_G} {ou : Nat → Nat} {ca : Nat → ClassId} (hE : am_EC E) : hg_Met l E D ou ca hy10_isStyle prog_12_method_20_code 3 (some .boolean) 2 pr10_isStyle fm10_isStyle := by
  refine am_met (B := kb10_isStyle) (cuts := []) (nt := 5) (by decide +kernel) rfl rfl (hg_tys_ok ca) ?_ (by decide) rl10_isStyle ?_ rn10_isStyle
  · exact fun t ht => List.mem_cons_of_mem _ (hg_arr t ht)
  · intro a w hp ad p e R s m args below meth c hR X hEs hnm
    have hR1 : 2 ≤ R.frames ∧ 80 ≤ R.locals := by rw [hR]; exact ⟨Nat.le_refl _, Nat.le_refl _⟩
    refine ⟨kd10_isStyle_ok, fun index ci fi mode hq => kf10_ok X.2.2.2.2.1 (index, ci, fi, mode) (am_as_mem hq), fun index ci fs hq => (am_no hq).elim, fun x v hq => (am_no hq).elim, ?_, fun o n f hq => (am_no hq).elim, rfl, rfl, by rw [hR]; exact Nat.le_refl _, by rw [hR]; exact Nat.le_refl _⟩
    intro pc sel n0 pre0 f0 hq
    have hz : ∀ q ∈ ki10_isStyle, am_CK p l e R s m args below meth c D hn_cl (va_A (am_w ad ou ca w) s.heap.size) ou ca 3 q.1 q.2.2.1 q.2.2.2.1 q.2.2.2.2 := by
      refine am_allc (am_ck_V (n := 9) X hEs hE (km10_spells hE) (hg_good (gw_mem 1176 (by decide +kernel))) rfl (List.mem_cons_of_mem _ (gw_mem 76 (by decide +kernel))) (List.mem_cons_of_mem _ (gw_mem 1173 (by decide +kernel))) (List.mem_cons_of_mem _ (gw_mem 1175 (by decide +kernel))) (List.mem_cons_of_mem _ (gw_mem 26 (by decide +kernel))) hm_pa (by decide +kernel) ⟨Nat.le_trans (by decide) hR1.1, Nat.le_trans (by decide) hR1.2⟩ (kd10_isStyle_ok (16, .invokevirtual 120, 3) (List.mem_of_getElem? (i := 10) rfl))) (am_all0)
    exact hz _ (am_as_mem hq)
noncomputable def ki10_isTitle : List (Nat × Option (List Nat) × Nat × (List am_V → List am_C → Prop) × am_M) := [(16, none, 10, pr10_spells, fm10_spells)]
noncomputable def kb10_isTitle : am_B := (kd10_isTitle, am_as kf10, hn_ty, fun _ => none, fun _ => none, am_as ki10_isTitle, fun _ => none, 5, 3, (some .boolean))
def fn10_isTitle (s : hs) (p0 : Int32) (p1 : Int32) : Int32 := (fn10_spells s p0 p1 (5 : Int32) (116 : Int32) (105 : Int32) (116 : Int32) (108 : Int32) (101 : Int32) (101 : Int32))
def wp10_isTitle (s : hs) (p0 : Int32) (p1 : Int32) : Prop := ((wp10_spells s p0 p1 (5 : Int32) (116 : Int32) (105 : Int32) (116 : Int32) (108 : Int32) (101 : Int32) (101 : Int32)) ∧ (am_fit .boolean (.inl (fn10_spells s p0 p1 (5 : Int32) (116 : Int32) (105 : Int32) (116 : Int32) (108 : Int32) (101 : Int32) (101 : Int32))) = true))
set_option maxRecDepth 100000 in
set_option maxHeartbeats 4000000 in
theorem re10_isTitle (s : hs) (p0 : Int32) (p1 : Int32) (hp : wp10_isTitle s p0 p1) : am_lf (am_mk kb10_isTitle 0 0 22) [] (0, am_L0 [.inr (.inl 0), .inl p0, .inl p1] 3, [], hm_w s, 0, 0) = some (some (.inl (fn10_isTitle s p0 p1)), hm_w s) := by
  unfold wp10_isTitle at hp
  refine am_lf_eq ?_
  generalize am_lf (am_mk kb10_isTitle 0 0 22) [] = kt
  refine am_cx (pre := pr10_spells) (f := fm10_spells) (r := (some (.inl (fn10_spells s p0 p1 (5 : Int32) (116 : Int32) (105 : Int32) (116 : Int32) (108 : Int32) (101 : Int32) (101 : Int32))), hm_w s, 0, 0)) ?_ ?_ ?_
  · exact ⟨s, [p0, p1, (5 : Int32), (116 : Int32), (105 : Int32), (116 : Int32), (108 : Int32), (101 : Int32), (101 : Int32)], rfl, rfl, hp.1⟩
  · rfl
  refine am_ci (c := am_fit .boolean (.inl (fn10_spells s p0 p1 (5 : Int32) (116 : Int32) (105 : Int32) (116 : Int32) (108 : Int32) (101 : Int32) (101 : Int32))) = true) hp.2 ?_
  rfl
abbrev pr10_isTitle : List am_V → List am_C → Prop := hm_pr (fun s is => match is with
  | [p0, p1] => wp10_isTitle s p0 p1
  | _ => False)
def fm10_isTitle : am_M := hm_fn (fun s is => match is with
  | [p0, p1] => (fn10_isTitle s p0 p1, s)
  | _ => (0, s))
set_option maxRecDepth 100000 in
set_option maxHeartbeats 4000000 in
theorem rn10_isTitle : ∀ (a : List am_V) (w : List am_C), pr10_isTitle a w → ∃ n, am_ev (am_mk kb10_isTitle (fm10_isTitle a w).2.2.1 (fm10_isTitle a w).2.2.2 w.length) [] n (0, am_L0 a 3, [], w, 0, 0) = some ((fm10_isTitle a w).1, (fm10_isTitle a w).2.1) := by
  rintro a w ⟨s, is, rfl, rfl, hp⟩
  rcases is with _ | ⟨p0, _ | ⟨p1, _ | ⟨z, is⟩⟩⟩
  · exact hp.elim
  · exact hp.elim
  · exact am_lf_ev (re10_isTitle s p0 p1 hp)
  · exact hp.elim
theorem rl10_isTitle : ∀ (a : List am_V) (w : List am_C), pr10_isTitle a w → a.length ≤ 3 := by
  rintro a w ⟨s, is, rfl, rfl, hp⟩
  rcases is with _ | ⟨p0, _ | ⟨p1, _ | ⟨z, is⟩⟩⟩
  · exact hp.elim
  · exact hp.elim
  · exact Nat.le_of_ble_eq_true rfl
  · exact hp.elim
set_option maxRecDepth 100000 in
set_option maxHeartbeats 4000000 in
theorem km10_isTitle {l : Launch} {E : (Nat → Prop) → State → Prop} {D : va_G} {ou : Nat → Nat} {ca : Nat → ClassId} (hE : am_EC E) : hg_Met l E D ou ca hy10_isTitle prog_12_method_21_code 3 (some .boolean) 2 pr10_isTitle fm10_isTitle := by
  refine am_met (B := kb10_isTitle) (cuts := []) (nt := 5) (by decide +kernel) rfl rfl (hg_tys_ok ca) ?_ (by decide) rl10_isTitle ?_ rn10_isTitle
  · exact fun t ht => List.mem_cons_of_mem _ (hg_arr t ht)
  · intro a w hp ad p e R s m args below meth c hR X hEs hnm
    have hR1 : 2 ≤ R.frames ∧ 80 ≤ R.locals := by rw [hR]; exact ⟨Nat.le_refl _, Nat.le_refl _⟩
    refine ⟨kd10_isTitle_ok, fun index ci fi mode hq => kf10_ok X.2.2.2.2.1 (index, ci, fi, mode) (am_as_mem hq), fun index ci fs hq => (am_no hq).elim, fun x v hq => (am_no hq).elim, ?_, fun o n f hq => (am_no hq).elim, rfl, rfl, by rw [hR]; exact Nat.le_refl _, by rw [hR]; exact Nat.le_refl _⟩
    intro pc sel n0 pre0 f0 hq
    have hz : ∀ q ∈ ki10_isTitle, am_CK p l e R s m args below meth c D hn_cl (va_A (am_w ad ou ca w) s.heap.size) ou ca 3 q.1 q.2.2.1 q.2.2.2.1 q.2.2.2.2 := by
      refine am_allc (am_ck_V (n := 9) X hEs hE (km10_spells hE) (hg_good (gw_mem 1176 (by decide +kernel))) rfl (List.mem_cons_of_mem _ (gw_mem 76 (by decide +kernel))) (List.mem_cons_of_mem _ (gw_mem 1173 (by decide +kernel))) (List.mem_cons_of_mem _ (gw_mem 1175 (by decide +kernel))) (List.mem_cons_of_mem _ (gw_mem 26 (by decide +kernel))) hm_pa (by decide +kernel) ⟨Nat.le_trans (by decide) hR1.1, Nat.le_trans (by decide) hR1.2⟩ (kd10_isTitle_ok (16, .invokevirtual 120, 3) (List.mem_of_getElem? (i := 10) rfl))) (am_all0)
    exact hz _ (am_as_mem hq)
noncomputable def ki10_isAmpersand : List (Nat × Option (List Nat) × Nat × (List am_V → List am_C → Prop) × am_M) := [(6, none, 2, pr10_ch, fm10_ch), (9, some [], 1, pr10_isWord, fm10_isWord), (17, none, 2, pr10_ch, fm10_ch), (33, none, 2, pr10_ch, fm10_ch)]
noncomputable def kb10_isAmpersand : am_B := (kd10_isAmpersand, am_as kf10, hn_ty, fun _ => none, fun _ => none, am_as ki10_isAmpersand, fun _ => none, 5, 3, (some .boolean))
def fn10_isAmpersand_c4 : Nat → hs → Int32 → Int32 → Int32
  | 0, _, _, _ => 0
  | n + 1, s, v1, v2 => (if (fn10_isWord (fn10_ch s v2)) = 0 then (if (fn10_ch s v2) = (35 : Int32) then (fn10_isAmpersand_c4 n s v1 (v2 + (1 : Int32))) else (if (fn10_ch s v2) = 0 then (0 : Int32) else (1 : Int32))) else (fn10_isAmpersand_c4 n s v1 (v2 + (1 : Int32))))
def wp10_isAmpersand_c4 : Nat → hs → Int32 → Int32 → Prop
  | 0, _, _, _ => False
  | n + 1, s, v1, v2 => ((wp10_ch s v2) ∧ ((wp10_isWord (fn10_ch s v2)) ∧ (((fn10_isWord (fn10_ch s v2)) = 0 → ((wp10_ch s v2) ∧ (((fn10_ch s v2) = (35 : Int32) → (wp10_isAmpersand_c4 n s v1 (v2 + (1 : Int32)))) ∧ (¬ (fn10_ch s v2) = (35 : Int32) → (wp10_ch s v2))))) ∧ (¬ (fn10_isWord (fn10_ch s v2)) = 0 → (wp10_isAmpersand_c4 n s v1 (v2 + (1 : Int32)))))))
set_option maxRecDepth 100000 in
set_option maxHeartbeats 4000000 in
theorem rc10_isAmpersand_4 : ∀ (n : Nat) (s : hs) (v1 : Int32) (v2 : Int32) , wp10_isAmpersand_c4 n s v1 v2 → am_lf (am_mk kb10_isAmpersand 0 0 22) [4] (4, [some (.inr (.inl 0)), some (.inl v1), some (.inl v2)], [], hm_w s, 0, 0) = some (some (.inl (fn10_isAmpersand_c4 n s v1 v2)), hm_w s) := by
  intro n
  induction n with
  | zero =>
    intro s v1 v2 hp
    exact hp.elim
  | succ n ih =>
    intro s v1 v2 hp
    unfold wp10_isAmpersand_c4 at hp
    refine am_lf_eq ?_
    generalize am_lf (am_mk kb10_isAmpersand 0 0 22) [4] = kt at ih ⊢
    refine am_cx (pre := pr10_ch) (f := fm10_ch) (r := (some (.inl (fn10_ch s v2)), hm_w s, 0, 0)) ?_ ?_ ?_
    · exact ⟨s, [v2], rfl, rfl, hp.1⟩
    · rfl
    refine am_cy (pre := pr10_isWord) (f := fm10_isWord) (r := (some (.inl (fn10_isWord (fn10_ch s v2))), [], 0, 0)) ?_ ?_ ?_
    · exact ⟨[(fn10_ch s v2)], rfl, rfl, hp.2.1⟩
    · rfl
    refine am_if (c := (fn10_isWord (fn10_ch s v2)) = 0) (fun h2 => ?_) (fun h2 => ?_)
    · have q2 := hp.2.2.1 h2
      refine am_cx (pre := pr10_ch) (f := fm10_ch) (r := (some (.inl (fn10_ch s v2)), hm_w s, 0, 0)) ?_ ?_ ?_
      · exact ⟨s, [v2], rfl, rfl, q2.1⟩
      · rfl
      refine am_if (c := (fn10_ch s v2) = (35 : Int32)) (fun h3 => ?_) (fun h3 => ?_)
      · have q3 := q2.2.1 h3
        have e : fn10_isAmpersand_c4 (n + 1) s v1 v2 = fn10_isAmpersand_c4 n s v1 (v2 + (1 : Int32)) := by
          rw [fn10_isAmpersand_c4]
          rw [if_pos h2, if_pos h3]
        rw [e]
        exact ih s v1 (v2 + (1 : Int32))  q3
      · have q3 := q2.2.2 h3
        refine am_cx (pre := pr10_ch) (f := fm10_ch) (r := (some (.inl (fn10_ch s v2)), hm_w s, 0, 0)) ?_ ?_ ?_
        · exact ⟨s, [v2], rfl, rfl, q3⟩
        · rfl
        refine am_if (c := (fn10_ch s v2) = 0) (fun h4 => ?_) (fun h4 => ?_)
        · have e : fn10_isAmpersand_c4 (n + 1) s v1 v2 = (0 : Int32) := by
            rw [fn10_isAmpersand_c4]
            rw [if_pos h2, if_neg h3, if_pos h4]
          rw [e] <;> rfl
        · have e : fn10_isAmpersand_c4 (n + 1) s v1 v2 = (1 : Int32) := by
            rw [fn10_isAmpersand_c4]
            rw [if_pos h2, if_neg h3, if_neg h4]
          rw [e] <;> rfl
    · have q2 := hp.2.2.2 h2
      have e : fn10_isAmpersand_c4 (n + 1) s v1 v2 = fn10_isAmpersand_c4 n s v1 (v2 + (1 : Int32)) := by
        rw [fn10_isAmpersand_c4]
        rw [if_neg h2]
      rw [e]
      exact ih s v1 (v2 + (1 : Int32))  q2
def fn10_isAmpersand (s : hs) (p0 : Int32) : Int32 := (fn10_isAmpersand_c4 1000 s p0 (p0 + (1 : Int32)))
def wp10_isAmpersand (s : hs) (p0 : Int32) : Prop := (wp10_isAmpersand_c4 1000 s p0 (p0 + (1 : Int32)))
set_option maxRecDepth 100000 in
set_option maxHeartbeats 4000000 in
theorem re10_isAmpersand (s : hs) (p0 : Int32) (hp : wp10_isAmpersand s p0) : am_lf (am_mk kb10_isAmpersand 0 0 22) [4] (0, am_L0 [.inr (.inl 0), .inl p0] 3, [], hm_w s, 0, 0) = some (some (.inl (fn10_isAmpersand s p0)), hm_w s) := by
  unfold wp10_isAmpersand at hp
  have i4 := @rc10_isAmpersand_4
  refine am_lf_eq ?_
  generalize am_lf (am_mk kb10_isAmpersand 0 0 22) [4] = kt at i4 ⊢
  exact i4 1000 s p0 (p0 + (1 : Int32))  hp
abbrev pr10_isAmpersand : List am_V → List am_C → Prop := hm_pr (fun s is => match is with
  | [p0] => wp10_isAmpersand s p0
  | _ => False)
def fm10_isAmpersand : am_M := hm_fn (fun s is => match is with
  | [p0] => (fn10_isAmpersand s p0, s)
  | _ => (0, s))
set_option maxRecDepth 100000 in
set_option maxHeartbeats 4000000 in
theorem rn10_isAmpersand : ∀ (a : List am_V) (w : List am_C), pr10_isAmpersand a w → ∃ n, am_ev (am_mk kb10_isAmpersand (fm10_isAmpersand a w).2.2.1 (fm10_isAmpersand a w).2.2.2 w.length) [4] n (0, am_L0 a 3, [], w, 0, 0) = some ((fm10_isAmpersand a w).1, (fm10_isAmpersand a w).2.1) := by
  rintro a w ⟨s, is, rfl, rfl, hp⟩
  rcases is with _ | ⟨p0, _ | ⟨z, is⟩⟩
  · exact hp.elim
  · exact am_lf_ev (re10_isAmpersand s p0 hp)
  · exact hp.elim
theorem rl10_isAmpersand : ∀ (a : List am_V) (w : List am_C), pr10_isAmpersand a w → a.length ≤ 3 := by
  rintro a w ⟨s, is, rfl, rfl, hp⟩
  rcases is with _ | ⟨p0, _ | ⟨z, is⟩⟩
  · exact hp.elim
  · exact Nat.le_of_ble_eq_true rfl
  · exact hp.elim
set_option maxRecDepth 100000 in
set_option maxHeartbeats 4000000 in
theorem km10_isAmpersand {l : Launch} {E : (Nat → Prop) → State → Prop} {D : va_G} {ou : Nat → Nat} {ca : Nat → ClassId} (hE : am_EC E) : hg_Met l E D ou ca hy10_isAmpersand prog_12_method_23_code 3 (some .boolean) 2 pr10_isAmpersand fm10_isAmpersand := by
  refine am_met (B := kb10_isAmpersand) (cuts := [4]) (nt := 5) (by decide +kernel) rfl rfl (hg_tys_ok ca) ?_ (by decide) rl10_isAmpersand ?_ rn10_isAmpersand
  · exact fun t ht => List.mem_cons_of_mem _ (hg_arr t ht)
  · intro a w hp ad p e R s m args below meth c hR X hEs hnm
    have hR1 : 2 ≤ R.frames ∧ 80 ≤ R.locals := by rw [hR]; exact ⟨Nat.le_refl _, Nat.le_refl _⟩
    refine ⟨kd10_isAmpersand_ok, fun index ci fi mode hq => kf10_ok X.2.2.2.2.1 (index, ci, fi, mode) (am_as_mem hq), fun index ci fs hq => (am_no hq).elim, fun x v hq => (am_no hq).elim, ?_, fun o n f hq => (am_no hq).elim, rfl, rfl, by rw [hR]; exact Nat.le_refl _, by rw [hR]; exact Nat.le_refl _⟩
    intro pc sel n0 pre0 f0 hq
    have hz : ∀ q ∈ ki10_isAmpersand, am_CK p l e R s m args below meth c D hn_cl (va_A (am_w ad ou ca w) s.heap.size) ou ca 3 q.1 q.2.2.1 q.2.2.2.1 q.2.2.2.2 := by
      refine am_allc (am_ck_V (n := 1) X hEs hE (km10_ch hE) (hg_good (gw_mem 1147 (by decide +kernel))) rfl (List.mem_cons_of_mem _ (gw_mem 76 (by decide +kernel))) (List.mem_cons_of_mem _ (gw_mem 1144 (by decide +kernel))) (List.mem_cons_of_mem _ (gw_mem 1146 (by decide +kernel))) (List.mem_cons_of_mem _ (gw_mem 21 (by decide +kernel))) hm_pa (by decide +kernel) ⟨Nat.le_trans (by decide) hR1.1, Nat.le_trans (by decide) hR1.2⟩ (kd10_isAmpersand_ok (6, .invokevirtual 114, 3) (List.mem_of_getElem? (i := 6) rfl))) (am_allc (am_ck_S (n := 1) X hEs hE (km10_isWord hE) (hg_good (gw_mem 1154 (by decide +kernel))) rfl (List.mem_cons_of_mem _ (gw_mem 76 (by decide +kernel))) (List.mem_cons_of_mem _ (gw_mem 1152 (by decide +kernel))) (List.mem_cons_of_mem _ (gw_mem 1153 (by decide +kernel))) (by decide +kernel) ⟨Nat.le_trans (by decide) hR1.1, Nat.le_trans (by decide) hR1.2⟩ (kd10_isAmpersand_ok (9, .invokestatic 140, 3) (List.mem_of_getElem? (i := 7) rfl))) (am_allc (am_ck_V (n := 1) X hEs hE (km10_ch hE) (hg_good (gw_mem 1147 (by decide +kernel))) rfl (List.mem_cons_of_mem _ (gw_mem 76 (by decide +kernel))) (List.mem_cons_of_mem _ (gw_mem 1144 (by decide +kernel))) (List.mem_cons_of_mem _ (gw_mem 1146 (by decide +kernel))) (List.mem_cons_of_mem _ (gw_mem 21 (by decide +kernel))) hm_pa (by decide +kernel) ⟨Nat.le_trans (by decide) hR1.1, Nat.le_trans (by decide) hR1.2⟩ (kd10_isAmpersand_ok (17, .invokevirtual 114, 3) (List.mem_of_getElem? (i := 11) rfl))) (am_allc (am_ck_V (n := 1) X hEs hE (km10_ch hE) (hg_good (gw_mem 1147 (by decide +kernel))) rfl (List.mem_cons_of_mem _ (gw_mem 76 (by decide +kernel))) (List.mem_cons_of_mem _ (gw_mem 1144 (by decide +kernel))) (List.mem_cons_of_mem _ (gw_mem 1146 (by decide +kernel))) (List.mem_cons_of_mem _ (gw_mem 21 (by decide +kernel))) hm_pa (by decide +kernel) ⟨Nat.le_trans (by decide) hR1.1, Nat.le_trans (by decide) hR1.2⟩ (kd10_isAmpersand_ok (33, .invokevirtual 114, 3) (List.mem_of_getElem? (i := 18) rfl))) (am_all0))))
    exact hz _ (am_as_mem hq)
