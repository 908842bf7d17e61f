/-! a call that throws and is caught, in the machine's words -/
def am_CT (p : Program) (l : Launch) (e : Env) (R : Room) (s : State) (m : MethodId) (args : Array Value) (below : List Frame) (meth : Method) (c : Code) (D : va_G) (cl : List vw_C) (A : Nat → Prop) (ou : Nat → Nat) (ca : Nat → ClassId) (nL pc n hpc : Nat) (pre : List am_V → List am_C → Prop) (f : am_MT) : Prop :=
  ∀ (Q : State → Prop) (a : List am_V) (wc : List am_C) (ad : Nat → Nat) (H : Heap) (locs : List Loc) (ls : Array Slot) (k j : Nat) (rest : List Value), a.length = n → pre a wc → va_P D cl (am_w ad ou ca wc) H → va_D A (am_w ad ou ca wc) → va_S A s.heap H locs → ls.size = nL → (rest.map fun v => v.category).sum ≤ 8 → k + 1 ≤ R.cells → j + 6 ≤ R.slots →
    (∀ (x : Nat) (H1 : Heap) (locs1 : List Loc) (ad' : Nat → Nat), (∀ i, i < wc.length → ad' i = ad i) → va_P D cl (am_w ad' ou ca (f a wc)) H1 → va_D (va_A (am_w ad ou ca wc) H.size) (am_w ad' ou ca (f a wc)) → H.size ≤ H1.size → (∀ q, q < H.size → ¬ va_A (am_w ad ou ca wc) H.size q → H1[q]? = H[q]?) → va_S A s.heap H1 locs1 → W p l e R s m args below meth c H1 locs1 (k + 1) (j + 6) Q (F0 m hpc ls [.ref x])) →
    W p l e R s m args below meth c H locs k j Q (F0 m pc ls ((a.map (am_v ad ou)).reverse ++ rest))
section AMCT
variable {p : Program} {l : Launch} {e : Env} {R : Room} {s : State} {m : MethodId} {args : Array Value} {below : List Frame} {meth : Method} {c : Code} {cc bytes : ByteArray} {D : va_G} {cl : List vw_C} {tys : List (ClassId × FieldType)} {A : Nat → Prop} {Ts ws ws' : List Jvm.Cond} {own C : String} {nL nt fr lo pc hpc n maxL idx : Nat} {ou : Nat → Nat} {ca : Nat → ClassId} {E : (Nat → Prop) → State → Prop} {y : MethodName} {pre : List am_V → List am_C → Prop} {f : am_MT} {ret : Option FieldType}
theorem am_ct_V (X : am_X p s m args c cc own Ts D cl tys A nL ca nt) (hEs : E A s) (hEC : am_EC E) (hM : am_MetT l E D cl tys ou ca y ws fr lo C pre f) (hG : GoodIn Ts ws) (hw : ws = Jvm.Cond.code y bytes maxL ret :: ws') (hini : Jvm.Cond.initialized y.cls ∈ Ts) (hlk : Jvm.Cond.methodLink own idx y ∈ Ts) (hin : Jvm.Cond.instanceMethod y ∈ Ts) (hsel : Jvm.Cond.selects y.cls y y ∈ Ts) (hpa : ∀ a w, pre a w → ∃ q a' ci fs r, a = .inr (.inl q) :: a' ∧ w[q]? = some (.inr (ci, fs)) ∧ cl[ci]? = some r ∧ r.1 = y.cls)
    (hdd : y.cls ≠ "java/lang/invoke/MethodHandle" ∧ y.cls ≠ "java/lang/invoke/VarHandle" ∧ (parseMethodDescriptor y.desc).map (fun d => d.parameters.length) = some n) (hR : fr + 1 ≤ R.frames ∧ 8 + (maxL + 11) + lo ≤ R.locals) (hd : decode cc pc = .ok (.invokevirtual idx, 3))
    (hcat : ∀ (S : State) (ls : Array Slot) (rest : List Value) (x : Nat) (ce : Cell), s.WarmedH S.vm → S.heap[x]? = some ce → ce.vm = .none → s.vm.findClass C = some ce.cls → ∃ v, s.WarmedH v ∧ hc_G e S (F0 m pc ls rest) x c.exceptionTable.toList (.found hpc) v) : am_CT p l e R s m args below meth c D cl A ou ca nL pc (n + 1) hpc pre f := by
  intro Q a wc ad H locs ls k j rest han hp hP hD hS hsz hW hk hj kk
  obtain ⟨q, a', ci, fs, r, rfl, hq, hc, hr⟩ := hpa a wc hp
  have hrec := va_recv X.2.2.2.2.2.1 hP hc (am_w_get hq)
  rw [hr] at hrec
  obtain ⟨cellB, hcB, hoB, hclB⟩ := hrec
  have hpre := am_pre (a := .inr (.inl q) :: a') X hEs hEC hP hD hS
  have hts := X.2.2.2.2.1
  obtain ⟨hrc, hrs, hfr, hlo, hws, hcw, hcode, hini', hy, hlen, hl⟩ := callB_of (rm := { frames := fr, cells := 1, slots := 6, locals := lo }) (R := R) (index := idx) n hts hG hw rfl rfl (hts _ hini) (hts _ hlk) hdd hR
  intro T hT XS
  obtain ⟨mk, methM, hnamed, hmethM, hstM, habM⟩ := Cond.instanceMethod_spec (hts _ hin)
  obtain ⟨methM', cM, hmethM', -, -, -, -, -, -, hsigM⟩ := Cond.code_spec hnamed hcode
  cases hmethM.symm.trans hmethM'
  obtain ⟨c2, r2, m2, q1, q2, q3, q4, kP, hkP, hkPi⟩ := Cond.selects_spec (hts _ hsel)
  cases hclB.symm.trans q1
  cases (State.methodFound?_of_named hnamed hy).symm.trans q2
  cases hnamed.symm.trans q3
  have hselP : selectMethod e.platform s.vm cellB.cls mk = .method mk := by rw [Launch.admits_selectMethod XS.admits]; exact q4
  obtain ⟨vm₁, X₁, hstep₁⟩ := XS.invokevirtual X.1 X.2.2.2.1 hl hnamed hmethM hstM hkP hkPi hy (a := ad q) (cell := cellB) (by rw [hT]; exact hcB)
    (fun z h => by rw [h] at hoB; cases hoB) hselP hmethM habM hkP hkPi (g := F0 m pc ls ((a'.map (am_v ad ou)).reverse ++ .ref (ad q) :: rest)) rfl (argsL := a'.map (am_v ad ou)) (rest := rest) (by rw [List.length_map, ← hlen _ hsigM]; simpa using han) rfl (by rw [X.2.1]; exact hd)
  have hPU : va_Pc ((.inr (.inl q) :: a').map (am_v ad ou)) (fun U => U.heap.size = H.size ∧ va_P D cl (am_w ad ou ca wc) U.heap ∧ va_K D cl tys U ∧ va_D (fun _ => True) (am_w ad ou ca wc) ∧ E (va_A (am_w ad ou ca wc) H.size) U) ((.inr (.inl q) :: a').map (am_v ad ou)).toArray (T.setVm vm₁) := hpre.2 (T.setVm vm₁) hT X₁.warmed
  obtain ⟨x, t, T', L, hq9, X', e1, e2, hF, hst⟩ := ht_thr (k := 1) (n := 6) (F := fun L => ∀ z ∈ L, va_A (am_w ad ou ca wc) H.size z.base) (bytes := bytes) (maxL := maxL) (ret := ret) (g := F0 m pc ls rest) (mk := mk) (av := ((.inr (.inl q) :: a').map (am_v ad ou)).toArray) X₁ rfl (hsz.trans X.2.2.1.symm) (by rw [X.2.1]; exact hd) (X₁.named hnamed) (hM ad H.size _ wc hp) hfr (by show 2 * 0 + (rest.map fun v => v.category).sum + (maxL + 11) + lo ≤ R.locals; omega) (fun w hw' => hws w hw' _ _ X₁.warmed) (hws _ hcw _ _ X₁.warmed) (word_at X₁.warmed (Or.inl (by first | rfl | simp [Cond.onTables, Cond.keeps, Cond.steady])) hini') hk hj (hpre.1 _ _ _ _ hPU)
    (fun o t h => by
      obtain ⟨x, ce, L, g1, -, -, -, -, -, g2, g3, g4⟩ := h
      exact ⟨x, L, g1, g2, g3, g4⟩)
  obtain ⟨x', ce, L', g1, g2, g3, g4, ⟨ad', g5, g6, g7⟩, g8, -, -, -⟩ := hq9
  cases g1
  have hfc : s.vm.findClass C = some ce.cls := by
    have h9 : (T.setVm vm₁).vm.findClass C = some ce.cls := g4
    rw [X₁.warmed.alike.findClass] at h9
    exact h9
  obtain ⟨v, hv, hg⟩ := hcat ((T'.setTop (F0 m pc ls rest)).pushFrame (.throwing x)) ls rest x ce X'.warmed (by rw [Stand.throwing_heap, e1]; exact g2) g3 hfc
  have hz : H.size ≤ t.heap.size := by
    have := g8.1
    rw [show ((T.setVm vm₁).calling (F0 m pc ls rest) mk ((.inr (.inl q) :: a').map (am_v ad ou)).toArray).heap = H from hT] at this
    exact this
  have hkeep : ∀ z, z < H.size → ¬ va_A (am_w ad ou ca wc) H.size z → T'.heap[z]? = H[z]? := by
    intro z h1 h2
    have := g8.2 z (by rw [show ((T.setVm vm₁).calling (F0 m pc ls rest) mk ((.inr (.inl q) :: a').map (am_v ad ou)).toArray).heap = H from hT]; exact h1) h2
    rw [show ((T.setVm vm₁).calling (F0 m pc ls rest) mk ((.inr (.inl q) :: a').map (am_v ad ou)).toArray).heap = H from hT] at this
    rw [e1]
    exact this
  have hfree : ∀ z, va_A (am_w ad ou ca wc) H.size z → A z := by
    intro z hz
    rcases hz with ⟨i, y, hz⟩ | hz
    · exact hD.2 i (z, y) hz
    · exact X.2.2.2.2.2.2.1 z (Nat.le_trans hS.1 hz)
  obtain ⟨u, hu, hQu⟩ := kk x T'.heap (locs ++ L) ad' g5 (by rw [e1]; exact g6) g7 (by rw [e1]; exact hz) hkeep ⟨Nat.le_trans hS.1 (by rw [e1]; exact hz), fun z h1 h2 => by rw [hkeep z (Nat.lt_of_lt_of_le h1 hS.1) (fun h3 => h2 (hfree z h3))]; exact hS.2.1 z h1 h2, fun z hz' => by
      rcases List.mem_append.mp hz' with h | h
      · exact hS.2.2 z h
      · exact hfree _ (hF z h)⟩ (T'.setVm v) rfl (X'.noted hv)
  refine ⟨u, ?_, hQu⟩
  have h10 : ((.inr (.inl q) :: a' : List am_V).map (am_v ad ou)).reverse ++ rest = (a'.map (am_v ad ou)).reverse ++ .ref (ad q) :: rest := by simp [am_v]
  rw [h10]
  refine hstep₁ _ fun acts => ?_
  rw [doInvoke_state]
  refine hst.trans ?_
  refine hc_steps (g := F0 m pc ls rest) X'.here (fun Q2 E2 d2 acts2 => ?_) hu
  rw [W.findHandler_eq (meth := meth) (code := c) X'.method' X'.code]
  exact hg Q2 E2 d2 acts2
end AMCT
