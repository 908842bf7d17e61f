/-! CALLS -/
theorem am_ix {sel : List Nat} {i : Nat} (h : sel.contains i = true) : sel[sel.idxOf i]? = some i := by
  induction sel with
  | nil => cases h
  | cons a r ih =>
    rw [List.idxOf_cons]
    cases ha : a == i with
    | true =>
      have : a = i := by simpa using ha
      subst this
      rfl
    | false =>
      have hne : ¬ i = a := fun q => by rw [q] at ha; simp at ha
      have h1 : r.contains i = true := by simpa [hne] using h
      simpa using ih h1
theorem am_v_dn {ad ou : Nat → Nat} {sel : List Nat} {v : am_V} (h : am_hin sel v = true) : am_v (fun i => ad (sel.getD i 0)) ou (am_dn sel v) = am_v ad ou v := by
  rcases v with x | q | q
  · rfl
  · show Value.ref (ad (sel.getD (sel.idxOf q) 0)) = Value.ref (ad q)
    rw [List.getD_eq_getElem?_getD, am_ix h]
    rfl
  · cases q <;> rfl
theorem am_e_dn {ad ou : Nat → Nat} {ca : Nat → ClassId} {sel : List Nat} {x : am_C} (h : am_hinC sel x = true) : am_e (fun i => ad (sel.getD i 0)) ou ca (am_dnC sel x) = am_e ad ou ca x := by
  rcases x with ⟨t, m, f⟩ | ⟨c, fs⟩
  · rfl
  · have h1 : (fs.map (am_dn sel)).map (am_v (fun i => ad (sel.getD i 0)) ou) = fs.map (am_v ad ou) := by
      rw [List.map_map]
      exact List.map_congr_left (fun v hv => am_v_dn (List.all_eq_true.mp h v hv))
    simp only [am_dnC, am_e, h1]
theorem am_sub_eq {w : List am_C} {sel : List Nat} (h : ∀ q ∈ sel, q < w.length) : (am_sub w sel).map some = sel.map (fun q => (w[q]?).map (am_dnC sel)) := by
  have key : ∀ (l : List Nat), (∀ q ∈ l, q < w.length) → (l.filterMap (fun q => (w[q]?).map (am_dnC sel))).map some = l.map (fun q => (w[q]?).map (am_dnC sel)) := by
    intro l
    induction l with
    | nil => intro _; rfl
    | cons a r ih =>
      intro hl
      have ha : a < w.length := hl a List.mem_cons_self
      have h1 : w[a]? = some w[a] := List.getElem?_eq_getElem ha
      simp only [List.filterMap_cons, List.map_cons, h1, Option.map_some, ih (fun q hq => hl q (List.mem_cons_of_mem _ hq))]
  exact key sel h
theorem am_sub_get {w : List am_C} {sel : List Nat} {i : Nat} {y : am_C} (h : ∀ q ∈ sel, q < w.length) (hi : (am_sub w sel)[i]? = some y) : ∃ q x, sel[i]? = some q ∧ w[q]? = some x ∧ y = am_dnC sel x := by
  have h1 : ((am_sub w sel).map some)[i]? = some (some y) := by rw [List.getElem?_map, hi]; rfl
  rw [am_sub_eq h, List.getElem?_map] at h1
  cases hs : sel[i]? with
  | none => rw [hs] at h1; cases h1
  | some q =>
    rw [hs] at h1
    have h2 : (w[q]?).map (am_dnC sel) = some y := Option.some.inj h1
    cases hw : w[q]? with
    | none => rw [hw] at h2; cases h2
    | some x =>
      rw [hw] at h2
      exact ⟨q, x, rfl, hw, (Option.some.inj h2).symm⟩
theorem am_sub_len {w : List am_C} {sel : List Nat} (h : ∀ q ∈ sel, q < w.length) : (am_sub w sel).length = sel.length := by
  have h1 := congrArg List.length (am_sub_eq h)
  simpa using h1
/-- where the callee's place t lies behind the call -/
def am_gt (sel : List Nat) (n t : Nat) : Nat := bif Nat.blt t sel.length then sel.getD t 0 else n + (t - sel.length)
theorem am_gt_in {sel : List Nat} {n t q : Nat} (h : sel[t]? = some q) : am_gt sel n t = q := by
  have h1 : t < sel.length := (List.getElem?_eq_some_iff.mp h).1
  unfold am_gt
  rw [show Nat.blt t sel.length = true from Nat.ble_eq_true_of_le h1, List.getD_eq_getElem?_getD, h]
  rfl
theorem am_gt_out {sel : List Nat} {n t : Nat} (h : sel.length ≤ t) : am_gt sel n t = n + (t - sel.length) := by
  unfold am_gt
  cases hb : Nat.blt t sel.length with
  | true => exact absurd (Nat.le_of_ble_eq_true hb) (by omega)
  | false => rfl
theorem am_mx_get (sel : List Nat) (w1 : List am_C) (n : Nat) : ∀ (w : List am_C) (q i : Nat), (am_mx sel w1 n q w)[i]? = (w[i]?).map (am_mxc sel w1 n (q + i)) := by
  intro w
  induction w with
  | nil => intro q i; rfl
  | cons x r ih =>
    intro q i
    cases i with
    | zero => rfl
    | succ i =>
      show (am_mx sel w1 n (q + 1) r)[i]? = (r[i]?).map (am_mxc sel w1 n (q + (i + 1)))
      rw [ih, Nat.add_assoc, Nat.add_comm 1 i]
theorem am_mx_len (sel : List Nat) (w1 : List am_C) (n : Nat) : ∀ (w : List am_C) (q : Nat), (am_mx sel w1 n q w).length = w.length := by
  intro w
  induction w with
  | nil => intro q; rfl
  | cons x r ih =>
    intro q
    show (am_mx sel w1 n (q + 1) r).length + 1 = r.length + 1
    rw [ih]
theorem am_mix_get {w w1 : List am_C} {sel : List Nat} {i : Nat} {y : am_C} (hl : sel.length ≤ w1.length) (hi : (am_mix w sel w1)[i]? = some y) : (∃ x, w[i]? = some x ∧ sel.contains i = false ∧ y = x) ∨ ∃ t x, w1[t]? = some x ∧ y = am_upC sel w.length x ∧ i = am_gt sel w.length t := by
  unfold am_mix at hi
  split at hi
  · exact Or.inl ⟨y, hi, rfl, rfl⟩
  by_cases hn : i < w.length
  · rw [List.getElem?_append_left (by rw [am_mx_len]; exact hn), am_mx_get, List.getElem?_eq_getElem hn, Nat.zero_add] at hi
    have hi := Option.some.inj hi
    unfold am_mxc at hi
    cases hc : sel.contains i with
    | false =>
      rw [hc] at hi
      exact Or.inl ⟨w[i], List.getElem?_eq_getElem hn, rfl, hi.symm⟩
    | true =>
      rw [hc] at hi
      have h1 := am_ix hc
      have h2 : sel.idxOf i < sel.length := (List.getElem?_eq_some_iff.mp h1).1
      have h3 : w1[sel.idxOf i]? = some (w1[sel.idxOf i]'(by omega)) := List.getElem?_eq_getElem (by omega)
      refine Or.inr ⟨sel.idxOf i, _, h3, ?_, (am_gt_in h1).symm⟩
      rw [← hi]
      show am_upC sel w.length (w1.getD (sel.idxOf i) w[i]) = _
      rw [List.getD_eq_getElem?_getD, h3]
      rfl
  · rw [List.getElem?_append_right (by rw [am_mx_len]; omega), List.getElem?_map, List.getElem?_drop] at hi
    simp only [am_mx_len] at hi
    cases hx : w1[sel.length + (i - w.length)]? with
    | none => rw [hx] at hi; cases hi
    | some x =>
      rw [hx] at hi
      refine Or.inr ⟨sel.length + (i - w.length), x, hx, (Option.some.inj hi).symm, ?_⟩
      rw [am_gt_out (by omega)]
      omega
/-- what a call leaves: the answer and the world, at addresses that are the old ones under n0 -/
def am_Qc (D : va_G) (cl : List vw_C) (ou : Nat → Nat) (ca : Nat → ClassId) (n0 : Nat) (ad0 : Nat → Nat) (r : am_Z) (A : Nat → Prop) : Array Value → State → Outcome → State → Prop := fun _ st oc t =>
  (∃ ad : Nat → Nat, (∀ i, i < n0 → ad i = ad0 i) ∧ oc = .returned (r.1.map (am_v ad ou)) ∧ va_P D cl (am_w ad ou ca r.2) t.heap ∧ va_D A (am_w ad ou ca r.2)) ∧ va_F A st t
/-- the call at this pc is one of a method of this meaning -/
def am_CK (p : Program) (l : Launch) (e : Env) (R : Room) (s : State) (m : MethodId) (args : Array Value) (below : List Frame) (meth : Method) (c : Code) (D : va_G) (cl : List vw_C) (A : Nat → Prop) (ou : Nat → Nat) (ca : Nat → ClassId) (nL pc n : Nat) (pre : List am_V → List am_C → Prop) (f : am_M) : Prop :=
  ∀ (a : List am_V) (wc : List am_C) (ad : Nat → Nat) (H : Heap) (locs : List Loc) (ls : Array Slot) (k j : Nat) (rest : List Value), a.length = n → pre a wc → va_P D cl (am_w ad ou ca wc) H → va_D A (am_w ad ou ca wc) → va_S A s.heap H locs → ls.size = nL → (rest.map fun v => v.category).sum ≤ 8 → k + (f a wc).2.2.1 ≤ R.cells → j + (f a wc).2.2.2 ≤ R.slots →
    va_Run p l e R s m args below meth c H locs k j (f a wc).2.2.1 (f a wc).2.2.2 (F0 m pc ls ((a.map (am_v ad ou)).reverse ++ rest)) rest (am_Qc D cl ou ca wc.length ad ((f a wc).1, (f a wc).2.1) (va_A (am_w ad ou ca wc) H.size) #[]) (va_A (am_w ad ou ca wc) H.size)
theorem am_sum1 (ad ou : Nat → Nat) (S : List am_V) : ((S.map (am_v ad ou)).map fun v => v.category).sum = S.length := by
  induction S with
  | nil => rfl
  | cons v S ih => simp only [List.map_cons, List.sum_cons, ih, am_cat, List.length_cons]; omega
/-- addresses behind a call -/
theorem am_after {n0 n : Nat} {ad ad1 ou : Nat → Nat} {sel : List Nat} {L : List (Option am_V)} {S : List am_V} {w w1 : List am_C} {r : Option am_V} (hsel : ∀ q ∈ sel, q < n) (hnw : n = w.length) (hag : ∀ i, i < sel.length → ad1 i = ad (sel.getD i 0))
    (h : ((w1.length == sel.length && (w1.all (am_loC sel.length) && am_loO sel.length r)) || (am_low n L S w && Nat.ble n0 n)) = true) :
    ∃ ad' : Nat → Nat, (∀ i, i < n0 → ad' i = ad i) ∧ (∀ i, i < n → ad' i = ad i) ∧ (∀ t, t < w1.length → ad' (am_gt sel n t) = ad1 t) ∧ (∀ v, r = some v → am_v ad' ou (am_up sel n v) = am_v ad1 ou v) ∧ (∀ (x : am_C) (ca : Nat → ClassId), x ∈ w1 → am_e ad' ou ca (am_upC sel n x) = am_e ad1 ou ca x) ∧ S.map (am_v ad' ou) = S.map (am_v ad ou) ∧ (∀ (x : am_C) (ca : Nat → ClassId), x ∈ w → am_e ad' ou ca x = am_e ad ou ca x) ∧ (∀ (ls : Array Slot) (nL : Nat), lv_has ls nL (am_l ad ou L) → lv_has ls nL (am_l ad' ou L)) := by
  have hin : ∀ t, t < sel.length → ad (am_gt sel n t) = ad1 t := by
    intro t ht
    rw [am_gt_in (List.getElem?_eq_getElem ht), hag t ht, List.getD_eq_getElem?_getD, List.getElem?_eq_getElem ht]
    rfl
  have up : ∀ (ad' : Nat → Nat) (b : Nat), (∀ t, t < b → ad' (am_gt sel n t) = ad1 t) → ∀ v, am_lo b v = true → am_v ad' ou (am_up sel n v) = am_v ad1 ou v := by
    intro ad' b hb v hv
    rcases v with x | q | q
    · rfl
    · show Value.ref (ad' (am_gt sel n q)) = Value.ref (ad1 q)
      rw [hb q (Nat.le_of_ble_eq_true hv)]
    · cases q <;> rfl
  have upC : ∀ (ad' : Nat → Nat) (b : Nat), (∀ t, t < b → ad' (am_gt sel n t) = ad1 t) → ∀ (x : am_C) (ca : Nat → ClassId), am_loC b x = true → am_e ad' ou ca (am_upC sel n x) = am_e ad1 ou ca x := by
    intro ad' b hb x ca hx
    rcases x with ⟨t, m, f⟩ | ⟨c, fs⟩
    · rfl
    · have h1 : (fs.map (am_up sel n)).map (am_v ad' ou) = fs.map (am_v ad1 ou) := by
        rw [List.map_map]
        exact List.map_congr_left (fun v hv => up ad' b hb v (List.all_eq_true.mp hx v hv))
      simp only [am_upC, am_e, h1]
  rw [Bool.or_eq_true] at h
  rcases h with h | h
  · simp only [Bool.and_eq_true] at h
    obtain ⟨h1, h2, h3⟩ := h
    have h1 : w1.length = sel.length := by simpa using h1
    refine ⟨ad, fun _ _ => rfl, fun _ _ => rfl, fun t ht => hin t (by omega), fun v hv => ?_, fun x ca hx => upC ad _ hin x ca (List.all_eq_true.mp h2 x hx), rfl, fun _ _ _ => rfl, fun _ _ q => q⟩
    subst hv
    exact up ad _ hin v h3
  · rw [Bool.and_eq_true] at h
    obtain ⟨g1, g2, g3⟩ := am_low_inv h.1
    have hn := Nat.le_of_ble_eq_true h.2
    obtain ⟨ad', hlo, hhi⟩ : ∃ ad' : Nat → Nat, (∀ i, i < n → ad' i = ad i) ∧ ∀ d, ad' (n + d) = ad1 (sel.length + d) := by
      refine ⟨fun i => if i < n then ad i else ad1 (sel.length + (i - n)), fun i hi => by simp [hi], fun d => ?_⟩
      have : ¬ n + d < n := by omega
      simp [this]
    have hall : ∀ t, ad' (am_gt sel n t) = ad1 t := by
      intro t
      by_cases ht : t < sel.length
      · rw [hlo _ (by rw [am_gt_in (List.getElem?_eq_getElem ht)]; exact hsel _ (List.getElem_mem ht))]
        exact hin t ht
      · rw [am_gt_out (by omega), hhi]
        congr 1
        omega
    have upA : ∀ v, am_v ad' ou (am_up sel n v) = am_v ad1 ou v := by
      intro v
      rcases v with x | q | q
      · rfl
      · show Value.ref (ad' (am_gt sel n q)) = Value.ref (ad1 q)
        rw [hall q]
      · cases q <;> rfl
    refine ⟨ad', fun i hi => hlo i (by omega), hlo, fun t _ => hall t, fun v _ => upA v, fun x ca _ => ?_, am_s_ag hlo g2, fun x ca hx => am_e_ag hlo (List.all_eq_true.mp g3 x hx), fun ls nL hl => am_l_ag hlo g1 hl⟩
    rcases x with ⟨t, m, f⟩ | ⟨c, fs⟩
    · rfl
    · have h1 : (fs.map (am_up sel n)).map (am_v ad' ou) = fs.map (am_v ad1 ou) := by
        rw [List.map_map]
        exact List.map_congr_left (fun v _ => upA v)
      simp only [am_upC, am_e, h1]
section AMK
variable {p : Program} {l : Launch} {e : Env} {R : Room} {s : State} {m : MethodId} {args : Array Value} {below : List Frame} {meth : Method} {c : Code} {Q : State → Prop} {cc : ByteArray} {D : va_G} {cl : List vw_C} {tys : List (ClassId × FieldType)} {A : Nat → Prop} {Ts : List Jvm.Cond} {own : String} {nL nt : Nat} {ou : Nat → Nat} {ca : Nat → ClassId}
theorem am_o_cal {len pc n k j : Nat} {ad : Nat → Nat} {kt : am_S → Option am_Z} {L : List (Option am_V)} {a rest : List am_V} {w : List am_C} {z : am_Z} {T : am_T} {sel : List Nat} {pre : List am_V → List am_C → Prop} {f : am_M} (X : am_X p s m args c cc own Ts D cl tys A nL ca nt) (hCK : am_CK p l e R s m args below meth c D cl A ou ca nL pc n pre f) (han : a.length = n) (hmc : am_mc T ≤ R.cells) (hms : am_ms T ≤ R.slots) (h : am_cal T len pc L w k j kt a rest sel pre f = some z)
    (K : ∀ st' : am_S, kt st' = some z → ∀ ad' : Nat → Nat, (∀ i, i < am_n0 T → ad' i = ad i) → am_W p l e R s m args below meth c Q D cl A ou ca nL ad' st') : am_W p l e R s m args below meth c Q D cl A ou ca nL ad (pc, L, a.reverse ++ rest, w, k, j) := by
  unfold am_cal at h
  have hh := am_chq_inv h
  clear h
  obtain ⟨hsok, h⟩ := hh
  have hh := am_bt h
  clear h
  obtain ⟨s3, h⟩ := hh
  simp only [am_sow, Bool.and_eq_true] at hsok
  obtain ⟨s1, s2, s4⟩ := hsok
  have hsel : ∀ q ∈ sel, q < w.length := fun q hq => Nat.le_of_ble_eq_true (List.all_eq_true.mp s1 q hq)
  by_cases hp : pre (a.map (am_dn sel)) (am_sub w sel)
  · rw [if_pos hp] at h
    generalize hr : f (a.map (am_dn sel)) (am_sub w sel) = r at h
    unfold am_aft at h
    have hh := am_chq_inv h
    clear h
    obtain ⟨h9, h⟩ := hh
    rw [Bool.and_eq_true] at h9
    obtain ⟨h1, h5⟩ := h9
    have hh := am_bt h
    clear h
    obtain ⟨h0, h⟩ := hh
    simp only [Bool.and_eq_true] at h0
    obtain ⟨h2, h3, h4⟩ := h0
    have h1 := Nat.le_of_ble_eq_true h1
    have h2 := Nat.le_of_ble_eq_true h2
    have h3 := Nat.le_of_ble_eq_true h3
    have h4 := Nat.le_of_ble_eq_true h4
    unfold am_sx at h
    rw [if_pos rfl] at h
    obtain ⟨rfl, hk⟩ := am_nx_inv h
    intro H locs ls hP hD hS hl
    have hcell : ∀ q ∈ sel, ∀ x, w[q]? = some x → am_hinC sel x = true := fun q hq x hx => by
      have g := List.all_eq_true.mp s4 q hq
      rw [hx] at g
      exact g
    have hgetC : ∀ (i : Nat) (q : Nat × va_E), (am_w (fun i => ad (sel.getD i 0)) ou ca (am_sub w sel))[i]? = some q → ∃ b, sel[i]? = some b ∧ (am_w ad ou ca w)[b]? = some q := by
      intro i q hq
      obtain ⟨y, hy, rfl⟩ := am_w_inv hq
      obtain ⟨b, x, e1, e2, rfl⟩ := am_sub_get hsel hy
      refine ⟨b, e1, ?_⟩
      rw [am_w_get e2, am_e_dn (hcell b (List.mem_of_getElem? e1) x e2), List.getD_eq_getElem?_getD, e1]
      rfl
    have hPc : va_P D cl (am_w (fun i => ad (sel.getD i 0)) ou ca (am_sub w sel)) H := fun i q hq => by
      obtain ⟨b, -, e2⟩ := hgetC i q hq
      exact hP b q e2
    have hDc : va_D A (am_w (fun i => ad (sel.getD i 0)) ou ca (am_sub w sel)) := by
      refine ⟨fun i i' q q' hq hq' he => ?_, fun i q hq => ?_⟩
      · obtain ⟨b, e1, e2⟩ := hgetC i q hq
        obtain ⟨b', e1', e2'⟩ := hgetC i' q' hq'
        have hbb : b = b' := hD.1 b b' q q' e2 e2' he
        subst hbb
        exact va_nd_inj sel s2 i i' b e1 e1'
      · obtain ⟨b, -, e2⟩ := hgetC i q hq
        exact hD.2 b q e2
    have hfree : ∀ q, va_A (am_w (fun i => ad (sel.getD i 0)) ou ca (am_sub w sel)) H.size q → A q := by
      intro q hq
      rcases hq with ⟨i, y, hq⟩ | hq
      · exact hDc.2 i (q, y) hq
      · exact X.2.2.2.2.2.2.1 q (Nat.le_trans hS.1 hq)
    have hst : (a.reverse ++ rest).map (am_v ad ou) = ((a.map (am_dn sel)).map (am_v (fun i => ad (sel.getD i 0)) ou)).reverse ++ rest.map (am_v ad ou) := by
      have g1 : (a.map (am_dn sel)).map (am_v (fun i => ad (sel.getD i 0)) ou) = a.map (am_v ad ou) := by
        rw [List.map_map]
        exact List.map_congr_left (fun v hv => am_v_dn (List.all_eq_true.mp s3 v hv))
      rw [g1, List.map_append, List.map_reverse]
    have run := hCK (a.map (am_dn sel)) (am_sub w sel) (fun i => ad (sel.getD i 0)) H locs ls k j (rest.map (am_v ad ou)) (by rw [List.length_map]; exact han) hp hPc hDc hS hl.1 (by rw [am_sum1]; exact h4) (by rw [hr]; omega) (by rw [hr]; omega)
    rw [hr] at run
    dsimp only
    rw [hst]
    intro T0 hT0 X0
    obtain ⟨v, st₀, t, T', L', g0, X', hL, e1, e2, ⟨⟨ad1, hag, ho, hP1, hD1⟩, hz, hkp⟩, stp⟩ := run T0 hT0 X0
    cases ho
    rw [g0] at hz hkp
    rw [am_sub_len hsel] at hag
    obtain ⟨ad', a0, aL, aT, aR, aC, aS, aW, aLs⟩ := am_after (n0 := am_n0 T) (n := w.length) (ad := ad) (ad1 := ad1) (ou := ou) (sel := sel) (L := L) (S := rest) (w := w) (w1 := r.2.1) (r := r.1) hsel rfl hag h5
    have hget : ∀ (i : Nat) (q : Nat × va_E), (am_w ad' ou ca (am_mix w sel r.2.1))[i]? = some q → ((am_w ad ou ca w)[i]? = some q ∧ sel.contains i = false) ∨ ∃ b, (am_w ad1 ou ca r.2.1)[b]? = some q ∧ i = am_gt sel w.length b := by
      intro i q hq
      obtain ⟨y, hy, rfl⟩ := am_w_inv hq
      rcases am_mix_get h1 hy with ⟨x, x1, x2, rfl⟩ | ⟨b, x, x1, rfl, rfl⟩
      · refine Or.inl ⟨?_, x2⟩
        rw [am_w_get x1, aW _ ca (List.mem_of_getElem? x1), aL i (List.getElem?_eq_some_iff.mp x1).1]
      · refine Or.inr ⟨b, ?_, rfl⟩
        rw [am_w_get x1, aC _ ca (List.mem_of_getElem? x1), aT b (List.getElem?_eq_some_iff.mp x1).1]
    have hapart : ∀ (i : Nat) (q : Nat × va_E), (am_w ad ou ca w)[i]? = some q → sel.contains i = false → q.1 < H.size ∧ ¬ va_A (am_w (fun i => ad (sel.getD i 0)) ou ca (am_sub w sel)) H.size q.1 := by
      intro i q hq hc
      have hlt := (hP i q hq).lt
      refine ⟨hlt, fun hA => ?_⟩
      rcases hA with ⟨b, y, hb⟩ | hA
      · obtain ⟨b', e1', e2'⟩ := hgetC b (q.1, y) hb
        have hib := hD.1 i b' q (q.1, y) hq e2' rfl
        subst hib
        have hm : i ∈ sel := List.mem_of_getElem? e1'
        rw [List.contains_iff_mem.mpr hm] at hc
        cases hc
      · omega
    have hP2 : va_P D cl (am_w ad' ou ca (am_mix w sel r.2.1)) t.heap := by
      intro i q hq
      rcases hget i q hq with ⟨x1, x2⟩ | ⟨b, x1, -⟩
      · obtain ⟨y1, y2⟩ := hapart i q x1 x2
        exact (hP i q x1).kept (hkp q.1 y1 y2)
      · exact hP1 b q x1
    have hD2 : va_D A (am_w ad' ou ca (am_mix w sel r.2.1)) := by
      refine ⟨fun i i' q q' hq hq' he => ?_, fun i q hq => ?_⟩
      · rcases hget i q hq with ⟨x1, x2⟩ | ⟨b, x1, rfl⟩
        · rcases hget i' q' hq' with ⟨x1', x2'⟩ | ⟨b', x1', rfl⟩
          · exact hD.1 i i' q q' x1 x1' he
          · exact absurd (hD1.2 b' q' x1') (by rw [← he]; exact (hapart i q x1 x2).2)
        · rcases hget i' q' hq' with ⟨x1', x2'⟩ | ⟨b', x1', rfl⟩
          · exact absurd (hD1.2 b q x1) (by rw [he]; exact (hapart i' q' x1' x2').2)
          · rw [hD1.1 b b' q q' x1 x1' he]
      · rcases hget i q hq with ⟨x1, -⟩ | ⟨b, x1, -⟩
        · exact hD.2 i q x1
        · exact hfree _ (hD1.2 b q x1)
    have hS2 : va_S A s.heap t.heap (locs ++ L') := ⟨Nat.le_trans hS.1 hz, fun q q1 q2 => by rw [hkp q (Nat.lt_of_lt_of_le q1 hS.1) (fun y => q2 (hfree q y))]; exact hS.2.1 q q1 q2, fun q hq => by
      rcases List.mem_append.mp hq with y | y
      · exact hS.2.2 q y
      · exact hfree _ (hL q y)⟩
    obtain ⟨t2, a1, b1⟩ := K _ hk ad' a0 t.heap (locs ++ L') ls hP2 hD2 hS2 (aLs ls nL hl) T' e1 X'
    refine ⟨t2, stp t2 ?_, b1⟩
    have hstk : (am_ans sel w.length r.1 ++ rest).map (am_v ad' ou) = (r.1.map (am_v ad1 ou)).toList ++ rest.map (am_v ad ou) := by
      rw [List.map_append, aS]
      congr 1
      cases hr1 : r.1 with
      | none => rfl
      | some v =>
        show [am_v ad' ou (am_up sel w.length v)] = [am_v ad1 ou v]
        rw [aR v hr1]
    dsimp only at a1
    rw [hstk] at a1
    exact a1
  · rw [if_neg hp] at h
    cases h
theorem am_o_caw {len pc n k j : Nat} {ad : Nat → Nat} {kt : am_S → Option am_Z} {L : List (Option am_V)} {a rest : List am_V} {w : List am_C} {z : am_Z} {T : am_T} {pre : List am_V → List am_C → Prop} {f : am_M} (X : am_X p s m args c cc own Ts D cl tys A nL ca nt) (hCK : am_CK p l e R s m args below meth c D cl A ou ca nL pc n pre f) (han : a.length = n) (hmc : am_mc T ≤ R.cells) (hms : am_ms T ≤ R.slots) (h : am_caw T len pc L w k j kt a rest pre f = some z)
    (K : ∀ st' : am_S, kt st' = some z → ∀ ad' : Nat → Nat, (∀ i, i < am_n0 T → ad' i = ad i) → am_W p l e R s m args below meth c Q D cl A ou ca nL ad' st') : am_W p l e R s m args below meth c Q D cl A ou ca nL ad (pc, L, a.reverse ++ rest, w, k, j) := by
  unfold am_caw at h
  by_cases hp : pre a w
  · rw [if_pos hp] at h
    generalize hr : f a w = r at h
    unfold am_afw at h
    have hh := am_chk_inv h
    clear h
    obtain ⟨h5, h⟩ := hh
    unfold am_afx at h
    have hh := am_bt h
    clear h
    obtain ⟨h0, h⟩ := hh
    simp only [Bool.and_eq_true] at h0
    obtain ⟨h1, h2, h3, h4, h6, h7⟩ := h0
    have h1 := Nat.le_of_ble_eq_true h1
    have h2 := Nat.le_of_ble_eq_true h2
    have h3 := Nat.le_of_ble_eq_true h3
    have h4 := Nat.le_of_ble_eq_true h4
    have h7 := Nat.le_of_ble_eq_true h7
    obtain ⟨rfl, hk⟩ := am_nx_inv h
    intro H locs ls hP hD hS hl
    have hfree : ∀ q, va_A (am_w ad ou ca w) H.size q → A q := by
      intro q hq
      rcases hq with ⟨i, y, hq⟩ | hq
      · exact hD.2 i (q, y) hq
      · exact X.2.2.2.2.2.2.1 q (Nat.le_trans hS.1 hq)
    have hst : (a.reverse ++ rest).map (am_v ad ou) = (a.map (am_v ad ou)).reverse ++ rest.map (am_v ad ou) := by
      rw [List.map_append, List.map_reverse]
    have run := hCK a w ad H locs ls k j (rest.map (am_v ad ou)) han hp hP hD hS hl.1 (by rw [am_sum1]; exact h4) (by rw [hr]; omega) (by rw [hr]; omega)
    rw [hr] at run
    dsimp only
    rw [hst]
    intro T0 hT0 X0
    obtain ⟨v, st₀, t, T', L', g0, X', hL, e1, e2, ⟨⟨ad1, hag, ho, hP1, hD1⟩, hz, hkp⟩, stp⟩ := run T0 hT0 X0
    cases ho
    rw [g0] at hz hkp
    have hS2 : va_S A s.heap t.heap (locs ++ L') := ⟨Nat.le_trans hS.1 hz, fun q q1 q2 => by rw [hkp q (Nat.lt_of_lt_of_le q1 hS.1) (fun y => q2 (hfree q y))]; exact hS.2.1 q q1 q2, fun q hq => by
      rcases List.mem_append.mp hq with y | y
      · exact hS.2.2 q y
      · exact hfree _ (hL q y)⟩
    have hD2 : va_D A (am_w ad1 ou ca r.2.1) := ⟨hD1.1, fun i q hq => hfree _ (hD1.2 i q hq)⟩
    obtain ⟨t2, a1, b1⟩ := K _ hk ad1 (fun i hi => hag i (by omega)) t.heap (locs ++ L') ls hP1 hD2 hS2 (am_l_ag hag h5 hl) T' e1 X'
    refine ⟨t2, stp t2 ?_, b1⟩
    have hstk : (r.1.toList ++ rest).map (am_v ad1 ou) = (r.1.map (am_v ad1 ou)).toList ++ rest.map (am_v ad ou) := by
      rw [List.map_append, am_s_ag hag h6]
      congr 1
      cases r.1 <;> rfl
    dsimp only at a1
    rw [hstk] at a1
    exact a1
  · rw [if_neg hp] at h
    cases h
theorem am_o_inv {len pc k j : Nat} {ad : Nat → Nat} {kt : am_S → Option am_Z} {L : List (Option am_V)} {S : List am_V} {w : List am_C} {z : am_Z} {T : am_T} (X : am_X p s m args c cc own Ts D cl tys A nL ca nt) (hC : ∀ sel n pre f, T.2.2.2.2.2.1 pc = some (sel, n, pre, f) → am_CK p l e R s m args below meth c D cl A ou ca nL pc n pre f) (hmc : am_mc T ≤ R.cells) (hms : am_ms T ≤ R.slots) (h : am_inv T len pc L w k j kt S = some z)
    (K : ∀ st' : am_S, kt st' = some z → ∀ ad' : Nat → Nat, (∀ i, i < am_n0 T → ad' i = ad i) → am_W p l e R s m args below meth c Q D cl A ou ca nL ad' st') : am_W p l e R s m args below meth c Q D cl A ou ca nL ad (pc, L, S, w, k, j) := by
  unfold am_inv at h
  cases hT : T.2.2.2.2.2.1 pc with
  | none => rw [hT] at h; cases h
  | some y =>
    obtain ⟨sel, n, pre, f⟩ := y
    rw [hT] at h
    cases sel with
    | none =>
      dsimp only at h
      have hh := am_bt h
      clear h
      obtain ⟨h0, h⟩ := hh
      have h0 := Nat.le_of_ble_eq_true h0
      have R1 := am_o_caw X (hC none n pre f hT) (by rw [List.length_reverse, List.length_take]; omega) hmc hms h K
      rw [List.reverse_reverse, List.take_append_drop] at R1
      exact R1
    | some sel =>
      dsimp only at h
      have hh := am_bt h
      clear h
      obtain ⟨h0, h⟩ := hh
      have h0 := Nat.le_of_ble_eq_true h0
      have R1 := am_o_cal X (hC (some sel) n pre f hT) (by rw [List.length_reverse, List.length_take]; omega) hmc hms h K
      rw [List.reverse_reverse, List.take_append_drop] at R1
      exact R1
end AMK
