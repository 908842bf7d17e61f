/-! A METHOD'S CONTRACT out of its run on the machine; a call out of a contract -/
abbrev am_B : Type := List (Nat × Instr × Nat) × (Nat → Option (Nat × Nat × Nat)) × (Nat → Nat → FieldType) × (Nat → Option (Nat × List am_V)) × (Nat → Option am_V) × (Nat → Option (Option (List Nat) × Nat × (List am_V → List am_C → Prop) × am_M)) × (Nat → Option (Nat × Nat × (Nat → Int32))) × Nat × Nat × Option FieldType
def am_mk (B : am_B) (mc ms n0 : Nat) : am_T := (B.1, B.2.1, B.2.2.1, B.2.2.2.1, B.2.2.2.2.1, B.2.2.2.2.2.1, B.2.2.2.2.2.2.1, B.2.2.2.2.2.2.2.1, B.2.2.2.2.2.2.2.2.1, mc, ms, n0, B.2.2.2.2.2.2.2.2.2)
def am_EC (E : (Nat → Prop) → State → Prop) : Prop := (∀ (A : Nat → Prop) (U U' : State), U'.vm = U.vm → U'.heap = U.heap → E A U → E A U') ∧ ∀ (A A' : Nat → Prop) (s U : State), s.WarmedH U.vm → (∀ q, A' q → A q) → (∀ q : Nat, q < s.heap.size → ¬ A q → U.heap[q]? = s.heap[q]?) → s.heap.size ≤ U.heap.size → E A s → E A' U
theorem am_met {l : Launch} {E : (Nat → Prop) → State → Prop} {D : va_G} {cl : List vw_C} {tys : List (ClassId × FieldType)} {ou : Nat → Nat} {ca : Nat → ClassId} {y : MethodName} {ws ws' : List Jvm.Cond} {fr lo : Nat} {pre : List am_V → List am_C → Prop} {f : am_M} {cc : ByteArray} {nL nt : Nat} {ret : Option FieldType} {cuts : List Nat} {B : am_B}
    (hy : plainName y.cls = true) (hw : ws = Jvm.Cond.code y cc nL ret :: ws') (hret : B.2.2.2.2.2.2.2.2.2 = ret) (hty : ∀ t, t < nt → tys[t]? = some (ca t, am_ty t)) (harr : ∀ t, t < nt → Jvm.Cond.arrayClass (am_ty t) ∈ ws) (hnt : nt ≤ 5) (hargs : ∀ a w, pre a w → a.length ≤ nL)
    (hTK : ∀ (a : List am_V) (w : List am_C), pre a w → ∀ (ad : Nat → Nat) (p : Program) (e : Env) (R : Room) (s : State) (m : MethodId) (args : Array Value) (below : List Frame) (meth : Method) (c : Code), R = { frames := fr, cells := (f a w).2.2.1, slots := (f a w).2.2.2, locals := lo } → am_X p s m args c cc y.cls ws D cl tys (va_A (am_w ad ou ca w) s.heap.size) nL ca nt → E (va_A (am_w ad ou ca w) s.heap.size) s → meth.name = y.name → am_TK p l e R s m args below meth c cc y.cls ws D cl (va_A (am_w ad ou ca w) s.heap.size) ou ca nL nt (am_mk B (f a w).2.2.1 (f a w).2.2.2 w.length))
    (hrun : ∀ (a : List am_V) (w : List am_C), pre a w → ∃ n, am_ev (am_mk B (f a w).2.2.1 (f a w).2.2.2 w.length) cuts n (0, am_L0 a nL, [], w, 0, 0) = some ((f a w).1, (f a w).2.1)) : am_Met l E D cl tys ou ca y ws fr lo pre f := by
  intro ad sz a w hp
  refine Met.ofW (cc := cc) (maxL := nL) (ret := ret) hy hw ?_
  intro p e s m args below meth c s₁ B0 hml hv
  obtain ⟨rfl, hsz, hP, hK, hD0, hE⟩ := hv
  subst hsz
  have hts := atoms_spec (ws := ws) B0.pre
  have hown : s.vm.findClass y.cls = some m.cls := findClass_of_methodNamed B0.named
  have hnm : meth.name = y.name := (name_of_methodNamed B0.named B0.method).1
  have hD := hD0.self (sz := s.heap.size)
  have hS : va_S (va_A (am_w ad ou ca w) s.heap.size) s.heap s.heap [] := va_S.rf
  have hl := lv_entry (a.map (am_v ad ou)) (n := nL) (by rw [am_lg]; exact hargs a w hp)
  rw [lg_entry_eq]
  generalize (lg_sl (a.map (am_v ad ou)) ++ List.replicate (nL - (lg_sl (a.map (am_v ad ou))).length) Slot.unset).toArray = ls at hl ⊢
  have X : am_X p s m (a.map (am_v ad ou)).toArray c cc y.cls ws D cl tys (va_A (am_w ad ou ca w) s.heap.size) nL ca nt := ⟨B0.exec, B0.bytes, hml, hown, hts, hK, fun q h => Or.inr h, hty, fun t ht => hts _ (harr t ht), hnt⟩
  obtain ⟨n, hn⟩ := hrun a w hp
  have hr : meth.sig.returnType = am_rt (am_mk B (f a w).2.2.1 (f a w).2.2.2 w.length) := B0.returns.trans hret.symm
  exact am_ev_ok X (hTK a w hp ad p e _ s m _ below meth c rfl X hE hnm) (fun i len pc L S w2 k j hd hr2 ad' had => am_ret_ok (ad0 := ad) X hr B0.notSynchronized hd hr2 had) n _ hn ad (fun _ _ => rfl) s.heap [] ls hP hD hS (am_L0_ok hl)
section AMCK
variable {p : Program} {l : Launch} {e : Env} {R : Room} {s : State} {m : MethodId} {args : Array Value} {below : List Frame} {meth : Method} {c : Code} {cc bytes : ByteArray} {D : va_G} {cl : List vw_C} {tys : List (ClassId × FieldType)} {A : Nat → Prop} {Ts ws ws' : List Jvm.Cond} {own : String} {nL nt fr lo pc n maxL idx : Nat} {ou : Nat → Nat} {ca : Nat → ClassId} {E : (Nat → Prop) → State → Prop} {y : MethodName} {pre : List am_V → List am_C → Prop} {f : am_M} {ret : Option FieldType}
theorem am_pre (X : am_X p s m args c cc own Ts D cl tys A nL ca nt) (hEs : E A s) (hEC : am_EC E) {a : List am_V} {wc : List am_C} {ad : Nat → Nat} {H : Heap} {locs : List Loc} (hP : va_P D cl (am_w ad ou ca wc) H) (hD : va_D A (am_w ad ou ca wc)) (hS : va_S A s.heap H locs) : PreS s H (va_Pc (a.map (am_v ad ou)) (fun U => U.heap.size = H.size ∧ va_P D cl (am_w ad ou ca wc) U.heap ∧ va_K D cl tys U ∧ va_D (fun _ => True) (am_w ad ou ca wc) ∧ E (va_A (am_w ad ou ca wc) H.size) U)) (a.map (am_v ad ou)) := by
  refine ⟨fun a U g mk q => ?_, fun U hU hW => ⟨rfl, by rw [hU], by rw [hU]; exact hP, va_K.moved hW.alike X.2.2.2.2.2.1, hD.weaken (fun _ _ _ _ => trivial), hEC.2 A _ s U hW (fun q hq => ?_) (fun q h1 h2 => by rw [hU]; exact hS.2.1 q h1 h2) (by rw [hU]; exact hS.1) hEs⟩⟩
  · obtain ⟨q0, q1, qP, qK, qD, qE⟩ := q
    exact ⟨q0, q1, qP, va_K.moved (u := U) (U := U.calling g mk a) (Vm.Alike.refl U.vm) qK, qD, hEC.1 _ U (U.calling g mk a) rfl rfl qE⟩
  · rcases hq with ⟨i, z, hq⟩ | hq
    · exact hD.2 i (q, z) hq
    · exact X.2.2.2.2.2.2.1 q (Nat.le_trans hS.1 hq)
theorem am_ck_S (X : am_X p s m args c cc own Ts D cl tys A nL ca nt) (hEs : E A s) (hEC : am_EC E) (hM : am_Met l E D cl tys ou ca y ws fr lo pre f) (hG : GoodIn Ts ws) (hw : ws = Jvm.Cond.code y bytes maxL ret :: ws') (hini : Jvm.Cond.initialized y.cls ∈ Ts) (hlk : Jvm.Cond.methodLink own idx y ∈ Ts) (hst : Jvm.Cond.static y ∈ Ts)
    (hdd : y.cls ≠ "java/lang/invoke/MethodHandle" ∧ y.cls ≠ "java/lang/invoke/VarHandle" ∧ (parseMethodDescriptor y.desc).map (fun d => d.parameters.length) = some n) (hR : fr + 1 ≤ R.frames ∧ 8 + (maxL + 11) + lo ≤ R.locals) (hd : decode cc pc = .ok (.invokestatic idx, 3)) : am_CK p l e R s m args below meth c D cl A ou ca nL pc n pre f := by
  intro a wc ad H locs ls k j rest han hp hP hD hS hsz hW hk hj
  exact va_runS (nL := nL) (Ts := Ts) (own := own) (bytes := bytes) (maxL := maxL) (ret := ret) (As := a.map (am_v ad ou)) ⟨X.1, X.2.1, X.2.2.1, X.2.2.2.1, X.2.2.2.2.1⟩ (hM ad H.size a wc hp) ⟨callB_of n X.2.2.2.2.1 hG hw rfl rfl (X.2.2.2.2.1 _ hini) (X.2.2.2.2.1 _ hlk) hdd hR, X.2.2.2.2.1 _ hst⟩ (am_pre X hEs hEC hP hD hS) rfl (by rw [List.length_map]; exact han) hsz rfl (lv_room hW) hd ⟨hk, hj⟩
theorem am_ck_I (X : am_X p s m args c cc own Ts D cl tys A nL ca nt) (hEs : E A s) (hEC : am_EC E) (hM : am_Met l E D cl tys ou ca y ws fr lo pre f) (hG : GoodIn Ts ws) (hw : ws = Jvm.Cond.code y bytes maxL none :: ws') (hini : Jvm.Cond.initialized y.cls ∈ Ts) (hlk : Jvm.Cond.methodLink own idx y ∈ Ts) (hin : Jvm.Cond.instanceMethod y ∈ Ts) (hy1 : y.name = "<init>") (hpa : ∀ a w, pre a w → ∃ q a', a = .inr (.inl q) :: a')
    (hdd : y.cls ≠ "java/lang/invoke/MethodHandle" ∧ y.cls ≠ "java/lang/invoke/VarHandle" ∧ (parseMethodDescriptor y.desc).map (fun d => d.parameters.length) = some n) (hR : fr + 1 ≤ R.frames ∧ 8 + (maxL + 11) + lo ≤ R.locals) (hd : decode cc pc = .ok (.invokespecial idx, 3)) : am_CK p l e R s m args below meth c D cl A ou ca nL pc (n + 1) pre f := by
  intro a wc ad H locs ls k j rest han hp hP hD hS hsz hW hk hj
  obtain ⟨q, a', rfl⟩ := hpa a wc hp
  exact va_runI (nL := nL) (Ts := Ts) (own := own) (bytes := bytes) (maxL := maxL) (n := n) (As := a'.map (am_v ad ou)) (b := ad q) ⟨X.1, X.2.1, X.2.2.1, X.2.2.2.1, X.2.2.2.2.1⟩ (hM ad H.size _ wc hp) ⟨callB_of n X.2.2.2.2.1 hG hw rfl rfl (X.2.2.2.2.1 _ hini) (X.2.2.2.2.1 _ hlk) hdd hR, hy1, X.2.2.2.2.1 _ hin⟩ (am_pre X hEs hEC hP hD hS) rfl (by rw [List.length_map]; simpa using han) hsz (by simp [am_v]) (lv_room hW) hd ⟨hk, hj⟩
theorem am_ck_V (X : am_X p s m args c cc own Ts D cl tys A nL ca nt) (hEs : E A s) (hEC : am_EC E) (hM : am_Met l E D cl tys ou ca y ws fr lo pre f) (hG : GoodIn Ts ws) (hw : ws = Jvm.Cond.code y bytes maxL ret :: ws') (hini : Jvm.Cond.initialized y.cls ∈ Ts) (hlk : Jvm.Cond.methodLink own idx y ∈ Ts) (hin : Jvm.Cond.instanceMethod y ∈ Ts) (hsel : Jvm.Cond.selects y.cls y y ∈ Ts) (hpa : ∀ a w, pre a w → ∃ q a' ci fs r, a = .inr (.inl q) :: a' ∧ w[q]? = some (.inr (ci, fs)) ∧ cl[ci]? = some r ∧ r.1 = y.cls)
    (hdd : y.cls ≠ "java/lang/invoke/MethodHandle" ∧ y.cls ≠ "java/lang/invoke/VarHandle" ∧ (parseMethodDescriptor y.desc).map (fun d => d.parameters.length) = some n) (hR : fr + 1 ≤ R.frames ∧ 8 + (maxL + 11) + lo ≤ R.locals) (hd : decode cc pc = .ok (.invokevirtual idx, 3)) : am_CK p l e R s m args below meth c D cl A ou ca nL pc (n + 1) pre f := by
  intro a wc ad H locs ls k j rest han hp hP hD hS hsz hW hk hj
  obtain ⟨q, a', ci, fs, r, rfl, hq, hc, hr⟩ := hpa a wc hp
  have hrec := va_recv X.2.2.2.2.2.1 hP hc (am_w_get hq)
  rw [hr] at hrec
  have hpre := am_pre (a := .inr (.inl q) :: a') X hEs hEC hP hD hS
  exact va_runV (C := y.cls) (nL := nL) (Ts := Ts) (own := own) (bytes := bytes) (maxL := maxL) (ret := ret) (n := n) (As := a'.map (am_v ad ou)) (b := ad q) ⟨X.1, X.2.1, X.2.2.1, X.2.2.2.1, X.2.2.2.2.1⟩ (hM ad H.size _ wc hp) ⟨callB_of n X.2.2.2.2.1 hG hw rfl rfl (X.2.2.2.2.1 _ hini) (X.2.2.2.2.1 _ hlk) hdd hR, X.2.2.2.2.1 _ hin, X.2.2.2.2.1 _ hsel⟩ ⟨hpre.1, hrec, hpre.2⟩ rfl (by rw [List.length_map]; simpa using han) hsz (by simp [am_v]) (lv_room hW) hd ⟨hk, hj⟩
end AMCK
/-! tables as lists -/
def am_as {α : Type} (l : List (Nat × α)) (i : Nat) : Option α := match l with
  | [] => none
  | q :: r => bif q.1 == i then some q.2 else am_as r i
theorem am_as_mem {α : Type} {l : List (Nat × α)} {i : Nat} {v : α} (h : am_as l i = some v) : (i, v) ∈ l := by
  induction l with
  | nil => cases h
  | cons q r ih =>
    unfold am_as at h
    cases hq : q.1 == i with
    | true =>
      rw [hq] at h
      have h1 : q.2 = v := Option.some.inj h
      have h2 : q.1 = i := by simpa using hq
      rw [← h1, ← h2]
      exact List.mem_cons_self
    | false =>
      rw [hq] at h
      exact List.mem_cons_of_mem _ (ih h)
theorem am_all0 {α : Type} {P : α → Prop} : ∀ q ∈ ([] : List α), P q := fun _ h => absurd h List.not_mem_nil
theorem am_allc {α : Type} {P : α → Prop} {a : α} {l : List α} (h : P a) (t : ∀ q ∈ l, P q) : ∀ q ∈ a :: l, P q := fun q hq => by
  rcases List.mem_cons.mp hq with e | e
  · rw [e]; exact h
  · exact t q e
