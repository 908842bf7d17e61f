/-! contracts of throws: the method throws an object of class C, and leaves the world f a w -/
abbrev am_MT : Type := List am_V → List am_C → List am_C
def am_Qt (C : String) (D : va_G) (cl : List vw_C) (ou : Nat → Nat) (ca : Nat → ClassId) (n0 : Nat) (ad0 : Nat → Nat) (w' : List am_C) (A : Nat → Prop) : Array Value → State → Outcome → State → Prop := fun _ st o t =>
  ∃ (x : Nat) (ce : Cell) (L : List Loc), o = .threw x ∧ t.heap[x]? = some ce ∧ ce.vm = .none ∧ st.vm.findClass C = some ce.cls ∧ (∃ ad : Nat → Nat, (∀ i, i < n0 → ad i = ad0 i) ∧ va_P D cl (am_w ad ou ca w') t.heap ∧ va_D A (am_w ad ou ca w')) ∧ va_F A st t ∧ st.WarmedH t.vm ∧ st.sameButNew ({ t with vm := st.vm } : State) L 1 6 ∧ ∀ q ∈ L, A q.base
def am_MetT (l : Launch) (E : (Nat → Prop) → State → Prop) (D : va_G) (cl : List vw_C) (tys : List (ClassId × FieldType)) (ou : Nat → Nat) (ca : Nat → ClassId) (y : MethodName) (ws : List Jvm.Cond) (fr lo : Nat) (C : String) (pre : List am_V → List am_C → Prop) (f : am_MT) : Prop :=
  ∀ (ad : Nat → Nat) (sz : Nat) (a : List am_V) (w : List am_C), pre a w → MetFree l y (headSpec ws { frames := fr, cells := 1, slots := 6, locals := lo }) (va_Pc (a.map (am_v ad ou)) (fun U => U.heap.size = sz ∧ va_P D cl (am_w ad ou ca w) U.heap ∧ va_K D cl tys U ∧ va_D (fun _ => True) (am_w ad ou ca w) ∧ E (va_A (am_w ad ou ca w) sz) U)) (fun _ _ _ _ _ => True) (am_Qt C D cl ou ca w.length ad (f a w) (va_A (am_w ad ou ca w) sz))
/-- the words that a throw asks -/
def hx_nm : List String := ["java/lang/RuntimeException", "java/lang/Exception"]
def hx_w (own : String) (q : Nat × Nat × String) : List Cond := Bundle.ownAtoms own q.1 q.2.2 hx_nm ++ [.classLink own q.2.1 q.2.2, .instantiable q.2.2 6, .initialized q.2.2]
def hx_st : List (Nat × Nat × String) := [(63, 59, "java/lang/IllegalStateException"), (82, 78, "java/lang/IllegalArgumentException"), (101, 97, "java/lang/IndexOutOfBoundsException"), (118, 114, "java/lang/UnsupportedOperationException")]
def hx_E (E : (Nat → Prop) → State → Prop) : Prop := ∀ (A : Nat → Prop) (s : State), E A s → ∀ (args : Array Value), ∀ q ∈ hx_st, ∀ w ∈ hx_w "HoleTemplates" q, w.before args s = true
theorem am_metT {l : Launch} {E : (Nat → Prop) → State → Prop} {D : va_G} {cl : List vw_C} {tys : List (ClassId × FieldType)} {ou : Nat → Nat} {ca : Nat → ClassId} {y : MethodName} {ws ws' : List Jvm.Cond} {fr lo : Nat} {pre : List am_V → List am_C → Prop} {f : am_MT} {cc : ByteArray} {nL nt tpc : Nat} {B : am_B} (si : Nat) {st : Nat × Nat × String} (ki : Nat) {kx : Nat} {tx : String}
    (hE : hg_E E ou) (hX : hx_E E) (hl : ∀ e : Env, l.admits e → e.platform.stackTraces = false) (hown : y.cls = "HoleTemplates") (hst : hx_st[si]? = some st) (hki : hg_srs[ki]? = some (y.cls, kx, tx)) (hfit : Bundle.fit st.2.2 = true) (hfr : 6 ≤ fr) (hlo : 82 ≤ lo)
    (hd0 : decode cc tpc = .ok (.new st.2.1, 3)) (hd3 : decode cc (tpc + 3) = .ok (.dup, 1)) (hd4 : decode cc (tpc + 4) = .ok (.ldc kx, 2)) (hd6 : decode cc (tpc + 6) = .ok (.invokespecial st.1, 3)) (hd9 : decode cc (tpc + 9) = .ok (.athrow, 1))
    (hy : plainName y.cls = true) (hw : ws = Jvm.Cond.code y cc nL (some .int) :: ws') (hret : B.2.2.2.2.2.2.2.2.2 = some .int) (hty : ∀ t, t < nt → tys[t]? = some (ca t, am_ty t)) (harr : ∀ t, t < nt → Jvm.Cond.arrayClass (am_ty t) ∈ ws) (hnt : nt ≤ 5) (hargs : ∀ a w, pre a w → a.length ≤ nL)
    (hTK : ∀ (a : List am_V) (w : List am_C), pre a w → ∀ (ad : Nat → Nat) (p : Program) (e : Env) (R : Room) (s : State) (m : MethodId) (args : Array Value) (below : List Frame) (meth : Method) (c : Code), R = { frames := fr, cells := 1, slots := 6, locals := lo } → am_X p s m args c cc y.cls ws D cl tys (va_A (am_w ad ou ca w) s.heap.size) nL ca nt → E (va_A (am_w ad ou ca w) s.heap.size) s → meth.name = y.name → am_TK p l e R s m args below meth c cc y.cls ws D cl (va_A (am_w ad ou ca w) s.heap.size) ou ca nL nt (am_mk B 0 0 w.length))
    (hrun : ∀ (a : List am_V) (w : List am_C), pre a w → am_evT (am_mk B 0 0 w.length) tpc (0, am_L0 a nL, [], w, 0, 0) = some (none, f a w)) : am_MetT l E D cl tys ou ca y ws fr lo st.2.2 pre f := by
  intro ad sz a w hp
  refine MetFree.of_bodyS (code := cc) (maxLocals := nL) (ret := some .int) hy ?_ ?_
  · intro args s m h hn
    obtain ⟨meth, c, h1, h2, h3, h4, h5, h6, -, -⟩ := Cond.code_spec hn (atoms_spec (ws := ws) h _ (by rw [hw]; exact List.mem_cons_self))
    exact ⟨meth, c, h1, h2, h3, h4, h5, h6⟩
  intro p e s m args below meth c s₁ B0 hml hv _
  have hh0 : s₁.heap = s.heap := by rw [B0.state]; rfl
  obtain ⟨rfl, hsz, hP, hK, hD0, hEs⟩ := hv
  subst hsz
  have hts := atoms_spec (ws := ws) B0.pre
  have hfo : s.vm.findClass y.cls = some m.cls := findClass_of_methodNamed B0.named
  have hnm : meth.name = y.name := (name_of_methodNamed B0.named B0.method).1
  have hnoh : ∀ x ∈ c.exceptionTable.toList, covers x (tpc + 9) = false := by
    obtain ⟨meth2, c2, h1, h2, -, -, -, -, h7, -⟩ := Cond.code_spec B0.named (hts _ (by rw [hw]; exact List.mem_cons_self))
    have hc : meth.code = some c := (Stand.of_body B0).code
    cases B0.method.symm.trans h1
    cases hc.symm.trans h2
    intro x hx
    have h8 : c.exceptionTable = #[] := by simpa using h7
    rw [h8] at hx
    cases hx
  have hD := hD0.self (sz := s.heap.size)
  have hS : va_S (va_A (am_w ad ou ca w) s.heap.size) s.heap s.heap [] := va_S.rf
  have hlv := lv_entry (a.map (am_v ad ou)) (n := nL) (by rw [am_lg]; exact hargs a w hp)
  have X : am_X p s m (a.map (am_v ad ou)).toArray c cc y.cls ws D cl tys (va_A (am_w ad ou ca w) s.heap.size) nL ca nt := ⟨B0.exec, B0.bytes, hml, hfo, hts, hK, fun q h => Or.inr h, hty, fun t ht => hts _ (harr t ht), hnt⟩
  have key := am_evT_ok (R := { frames := fr, cells := 1, slots := 6, locals := lo }) (Q := fun t => ∃ o, t.status = .running ∧ Ended t below o ∧ am_Qt st.2.2 D cl ou ca w.length ad (f a w) (va_A (am_w ad ou ca w) s.heap.size) (a.map (am_v ad ou)).toArray s o t) (ad0 := ad) X (hTK a w hp ad p e _ s m _ below meth c rfl X hEs hnm) hret ?_ _ (hrun a w hp) ad (fun _ _ => rfl)
  · have key2 := fun ls hl => key s.heap [] ls hP hD hS (am_L0_ok hl)
    rw [lg_entry_eq]
    generalize (lg_sl (a.map (am_v ad ou)) ++ List.replicate (nL - (lg_sl (a.map (am_v ad ou))).length) Slot.unset).toArray = ls at hlv ⊢
    obtain ⟨t, a1, o, b1, b2, b3⟩ := key2 ls hlv s₁ hh0 (Stand.of_body B0)
    exact ⟨t, o, a1, b1, b2, b3⟩
  · intro L ad' had H locs ls qP qD qS ql
    have hEU : ∀ U : State, s.WarmedH U.vm → U.heap = H → E (va_A (am_w ad ou ca w) s.heap.size) U := fun U hW hU => hE.1.2 _ _ s U hW (fun _ h => h) (fun q h1 h2 => by rw [hU]; exact qS.2.1 q h1 h2) (by rw [hU]; exact qS.1) hEs
    refine ht_W2 (own := y.cls) (cls := st.2.2) (names := hx_nm) (ix := st.2.1) (ic := st.1) (kx := kx) (tx := tx) (q := ou ki) X.1 X.2.1 (hl e B0.admits) B0.notSynchronized (ql.1.trans X.2.2.1.symm) (fun U hW hU => ?_) hfit (by decide +kernel) hd0 hd3 hd4 hd6 hd9 hnoh (Nat.le_refl _) (Nat.le_refl _) (by show 2 + 3 < fr; omega) (by show 1 + (13 * (2 + 1) + 42) ≤ lo; omega) (fun U ce h1 h2 h3 h4 h5 h6 h7 h8 h9 => ?_)
    · have hE1 := hEU U hW hU
      have hx := fun w hw => hX _ U hE1 (a.map (am_v ad ou)).toArray st (List.mem_of_getElem? hst) w hw
      rw [← hown] at hx
      refine ⟨by rw [hW.alike.findClass]; exact hfo, fun q hq => hx q (List.mem_append_left _ hq), hx _ (List.mem_append_right _ (by simp)), hx _ (List.mem_append_right _ (by simp)), hx _ (List.mem_append_right _ (by simp)), (hE.2.1 _ U hE1).2.1 ki _ hki⟩
    · refine ⟨_, h2, h1, _, ce, locs, rfl, h7, h8, h9, ⟨ad', had, ?_, qD⟩, ⟨Nat.le_trans qS.1 h6, fun q g1 g2 => ?_⟩, h3, h4, qS.2.2⟩
      · intro k q hq
        have h10 := qP k q hq
        exact h10.kept (h5 _ h10.lt)
      · rw [h5 q (Nat.lt_of_lt_of_le g1 qS.1)]
        exact qS.2.1 q g1 g2
