/-! the law's wrappers: what they ask -/
section HCW
variable {e : Env} {s S : State} {f : JFrame} {a : Addr} {args : Array Value} {own C C1 : String} {cell : Cell} {tb : List ExceptionTableEntry} {a0 b0 h0 t0 a1 b1 h1 t1 : Nat} {r : List (Nat × Nat × Nat × Nat)}
theorem hc_w1 (hpl : e.platform.magicAccessors = ({} : Platform).magicAccessors) (hW : s.WarmedH S.vm) (hown : s.vm.findClass own = some f.method.cls) (htb : tb.map (fun h => (h.startPc, h.endPc, h.handlerPc, h.catchType)) = (a0, b0, h0, t0) :: r) (hc1 : a0 ≤ f.pc) (hc2 : f.pc < b0) (hn : t0 ≠ 0) (hlink : (Cond.classLink own t0 C).before args s = true) (hcell : S.heap[a]? = some cell) (hobj : cell.vm = .none) (hfc : s.vm.findClass C = some cell.cls) (has : s.vm.assignable cell.cls cell.cls = true) : ∃ v : Vm, s.WarmedH v ∧ hc_G e S f a tb (.found h0) v := by
  rcases tb with _ | ⟨x, tb⟩
  · cases htb
  · simp only [List.map_cons, List.cons.injEq, Prod.mk.injEq] at htb
    obtain ⟨⟨rfl, rfl, rfl, rfl⟩, -⟩ := htb
    obtain ⟨n, k1, k2, -⟩ := hc_ask (x := x) (t := tb) hpl hW hown (by simp [covers, hc1, hc2]) hn hlink hfc hcell hobj (Vm.classAt_of_findClass hfc)
    exact ⟨n, k1, k2 has⟩
theorem hc_w2 (hpl : e.platform.magicAccessors = ({} : Platform).magicAccessors) (hW : s.WarmedH S.vm) (hown : s.vm.findClass own = some f.method.cls) (htb : tb.map (fun h => (h.startPc, h.endPc, h.handlerPc, h.catchType)) = (a1, b1, h1, t1) :: (a0, b0, h0, t0) :: r) (hd1 : a1 ≤ f.pc) (hd2 : f.pc < b1) (hm : t1 ≠ 0) (hlink1 : (Cond.classLink own t1 C1).before args s = true) (hno : ∀ c, s.vm.findClass C1 = some c → s.vm.assignable cell.cls c = false) (hc1 : a0 ≤ f.pc) (hc2 : f.pc < b0) (hn : t0 ≠ 0) (hlink : (Cond.classLink own t0 C).before args s = true) (hcell : S.heap[a]? = some cell) (hobj : cell.vm = .none) (hfc : s.vm.findClass C = some cell.cls) (has : s.vm.assignable cell.cls cell.cls = true) : ∃ v : Vm, s.WarmedH v ∧ hc_G e S f a tb (.found h0) v := by
  rcases tb with _ | ⟨x, tb⟩
  · cases htb
  · rw [List.map_cons, List.cons.injEq] at htb
    obtain ⟨hx, htb⟩ := htb
    simp only [Prod.mk.injEq] at hx
    obtain ⟨rfl, rfl, rfl, rfl⟩ := hx
    obtain ⟨c1, hc1', -⟩ := Cond.classLink_spec hown hlink1 e.platform hpl
    obtain ⟨n, k1, -, k3⟩ := hc_ask (x := x) (t := tb) hpl hW hown (by simp [covers, hd1, hd2]) hm hlink1 hc1' hcell hobj (Vm.classAt_of_findClass hfc)
    obtain ⟨v, g1, g2⟩ := hc_w1 (S := S.setVm n) (tb := tb) hpl k1 hown htb hc1 hc2 hn hlink hcell hobj hfc has
    exact ⟨v, g1, k3 (hno c1 hc1') _ v g2⟩
end HCW
def hn_E (E : (Nat → Prop) → State → Prop) : Prop := ∀ (A : Nat → Prop) (s : State), E A s → ∀ c t, s.vm.findClass "java/lang/IllegalStateException" = some c → (s.vm.findClass "java/lang/IndexOutOfBoundsException" = some t ∨ s.vm.findClass "java/lang/UnsupportedOperationException" = some t) → s.vm.assignable c t = false
theorem hx_self {E : (Nat → Prop) → State → Prop} (hX : hx_E E) {A : Nat → Prop} {s : State} (h : E A s) {q : Nat × Nat × String} (hq : q ∈ hx_st) {c : ClassId} (hc : s.vm.findClass q.2.2 = some c) : s.vm.assignable c c = true := by
  have h1 := hX A s h #[] q hq (.castable q.2.2 q.2.2) (List.mem_append_left _ (by simp [Bundle.ownAtoms]))
  obtain ⟨c3, c4, hc3, hc4, hasg⟩ := Cond.castable_spec h1
  cases hc.symm.trans hc3
  cases hc.symm.trans hc4
  exact hasg
section AMSW
variable {p : Program} {l : Launch} {e : Env} {R : Room} {s : State} {m : MethodId} {args : Array Value} {below : List Frame} {meth : Method} {c : Code} {cc bytes : ByteArray} {D : va_G} {cl : List vw_C} {tys : List (ClassId × FieldType)} {A : Nat → Prop} {Ts ws ws' : List Jvm.Cond} {own : String} {nL nt fr lo pc n maxL idx : Nat} {ou : Nat → Nat} {ca : Nat → ClassId} {E : (Nat → Prop) → State → Prop} {y : MethodName} {pre : List am_V → List am_C → Prop} {f : am_M} {ret : Option FieldType} {hh : List (Nat × Nat × Nat × Nat)}
/-- a static call of a method with handlers -/
theorem am_ck_SW (X : am_X p s m args c cc own Ts D cl tys A nL ca nt) (hEs : E A s) (hEC : am_EC E) (hM : am_Met l E D cl tys ou ca y ws fr lo pre f) (hG : GoodIn Ts ws) (hw : ws = Jvm.Cond.codeWith y bytes maxL ret hh :: ws') (hini : Jvm.Cond.initialized y.cls ∈ Ts) (hlk : Jvm.Cond.methodLink own idx y ∈ Ts) (hst : Jvm.Cond.static y ∈ Ts)
    (hdd : y.cls ≠ "java/lang/invoke/MethodHandle" ∧ y.cls ≠ "java/lang/invoke/VarHandle" ∧ (parseMethodDescriptor y.desc).map (fun d => d.parameters.length) = some n) (hR : fr + 1 ≤ R.frames ∧ 8 + (maxL + 11) + lo ≤ R.locals) (hd : decode cc pc = .ok (.invokestatic idx, 3)) : am_CK p l e R s m args below meth c D cl A ou ca nL pc n pre f := by
  intro a wc ad H locs ls k j rest han hp hP hD hS hsz hW hk hj T hT XS
  have hts := X.2.2.2.2.1
  have hcw : Cond.codeWith y bytes maxL ret hh ∈ ws := by rw [hw]; exact List.mem_cons_self
  have hpre := am_pre (a := a) X hEs hEC hP hD hS
  have hK : Back l R p e below s args y 3 8 (PreOf R (f a wc).2.2.1 (f a wc).2.2.2 _) (PostOf _ (f a wc).2.2.1 (f a wc).2.2.2 _) := va_backW (hh := hh) (bytes := bytes) (maxL := maxL) (ret := ret) (hM ad H.size a wc hp) hpre.1 rfl rfl hR.1 hR.2 (pay_in hts hG) hcw (fun a' U hW => word_at hW (Or.inl (by first | rfl | simp [Cond.onTables, Cond.keeps, Cond.steady])) (hts _ hini))
  obtain ⟨mk, methM, cM, hnamed, hmethM, -, -, -, -, -, -, hsigM⟩ := Cond.codeWith_spec (hts _ (hG _ hcw).1)
  have hstatic : methM.isStatic = true := Cond.static_spec hnamed hmethM (hts _ hst)
  obtain ⟨kP, hkP, -⟩ := className_of_methodNamed hnamed
  have hinitP : kP.init = .initialized := Cond.initialized_spec (findClass_of_methodNamed hnamed) hkP (hts _ hini)
  have hln : (a.map (am_v ad ou)).length = methM.sig.parameters.length := by
    have h1 := hdd.2.2
    rw [hsigM] at h1
    rw [List.length_map, han]
    exact (Option.some.inj h1).symm
  obtain ⟨vm₁, X₁, hstep₁⟩ := XS.invokestatic X.1 X.2.2.2.1 (hts _ hlk) hnamed hmethM hstatic hkP hinitP ⟨hdd.1, hdd.2.1⟩ (g := F0 m pc ls ((a.map (am_v ad ou)).reverse ++ rest)) rfl (argsL := a.map (am_v ad ou)) (rest := rest) hln rfl (by rw [X.2.1]; exact hd)
  obtain ⟨v, ⟨U', l2, c2, s2⟩, X', ⟨g', mk', t, L, e1, e2, hq, h1, hL, h2, h3⟩, st⟩ := hK m meth c ⟨T.setVm vm₁, locs, k, j⟩ (F0 m pc ls rest) (.invokestatic idx) mk (a.map (am_v ad ou)).toArray X₁ rfl (hsz.trans X.2.2.1.symm) (by rw [X.2.1]; exact hd) (lv_room hW) (X₁.named hnamed) ⟨hk, hj, hpre.2 (T.setVm vm₁) hT X₁.warmed⟩
  dsimp only [Pt.U, Pt.locs, Pt.cells, Pt.slots] at X' e1 e2 h1 h2 h3 st
  subst h1; subst h2; subst h3
  exact ⟨v, (T.setVm vm₁).calling g' mk' (a.map (am_v ad ou)).toArray, t, U', L, hT, X', hL, e1, e2, hq, fun target h => hstep₁ _ fun acts => by rw [doInvoke_state]; exact st.trans h⟩
end AMSW
