/-! calls of nest mates; Object.<init> -/
section AMCN
variable {p : Program} {l : Launch} {e : Env} {R : Room} {s : State} {m : MethodId} {args : Array Value} {below : List Frame} {meth : Method} {c : Code} {cc bytes : ByteArray} {D : va_G} {cl : List vw_C} {tys : List (ClassId × FieldType)} {A : Nat → Prop} {Ts ws ws' : List Jvm.Cond} {own : String} {nL nt fr lo pc n maxL idx : Nat} {ou : Nat → Nat} {ca : Nat → ClassId} {E : (Nat → Prop) → State → Prop} {y : MethodName} {pre : List am_V → List am_C → Prop} {f : am_M} {ret : Option FieldType}
theorem am_ck_SN (X : am_X p s m args c cc own Ts D cl tys A nL ca nt) (hEs : E A s) (hEC : am_EC E) (hM : am_Met l E D cl tys ou ca y ws fr lo pre f) (hG : GoodIn Ts ws) (hw : ws = Jvm.Cond.code y bytes maxL ret :: ws') (hini : Jvm.Cond.initialized y.cls ∈ Ts) {host : String} (hlk : va_Nw (.methodLinkNest own idx y host) s) (hst : Jvm.Cond.static y ∈ Ts)
    (hdd : y.cls ≠ "java/lang/invoke/MethodHandle" ∧ y.cls ≠ "java/lang/invoke/VarHandle" ∧ (parseMethodDescriptor y.desc).map (fun d => d.parameters.length) = some n) (hR : fr + 1 ≤ R.frames ∧ 8 + (maxL + 11) + lo ≤ R.locals) (hd : decode cc pc = .ok (.invokestatic idx, 3)) : am_CK p l e R s m args below meth c D cl A ou ca nL pc n pre f := by
  intro a wc ad H locs ls k j rest han hp hP hD hS hsz hW hk hj
  exact va_runSN (nL := nL) (Ts := Ts) (own := own) (bytes := bytes) (maxL := maxL) (ret := ret) (As := a.map (am_v ad ou)) ⟨X.1, X.2.1, X.2.2.1, X.2.2.2.1, X.2.2.2.2.1⟩ (hM ad H.size a wc hp) ⟨va_cnB n X.2.2.2.2.1 hG hw rfl rfl hlk (X.2.2.2.2.1 _ hini) hdd hR, X.2.2.2.2.1 _ hst, trivial⟩ (am_pre X hEs hEC hP hD hS) rfl (by rw [List.length_map]; exact han) hsz rfl (lv_room hW) hd ⟨hk, hj⟩
theorem am_ck_IN (X : am_X p s m args c cc own Ts D cl tys A nL ca nt) (hEs : E A s) (hEC : am_EC E) (hM : am_Met l E D cl tys ou ca y ws fr lo pre f) (hG : GoodIn Ts ws) (hw : ws = Jvm.Cond.code y bytes maxL none :: ws') (hini : Jvm.Cond.initialized y.cls ∈ Ts) {host : String} (hlk : va_Nw (.methodLinkNest own idx y host) s) (hin : Jvm.Cond.instanceMethod y ∈ Ts) (hy1 : y.name = "<init>") (hpa : ∀ a w, pre a w → ∃ q a', a = .inr (.inl q) :: a')
    (hdd : y.cls ≠ "java/lang/invoke/MethodHandle" ∧ y.cls ≠ "java/lang/invoke/VarHandle" ∧ (parseMethodDescriptor y.desc).map (fun d => d.parameters.length) = some n) (hR : fr + 1 ≤ R.frames ∧ 8 + (maxL + 11) + lo ≤ R.locals) (hd : decode cc pc = .ok (.invokespecial idx, 3)) : am_CK p l e R s m args below meth c D cl A ou ca nL pc (n + 1) pre f := by
  intro a wc ad H locs ls k j rest han hp hP hD hS hsz hW hk hj
  obtain ⟨q, a', rfl⟩ := hpa a wc hp
  exact va_runIN (nL := nL) (Ts := Ts) (own := own) (bytes := bytes) (maxL := maxL) (n := n) (As := a'.map (am_v ad ou)) (b := ad q) ⟨X.1, X.2.1, X.2.2.1, X.2.2.2.1, X.2.2.2.2.1⟩ (hM ad H.size _ wc hp) ⟨va_cnB n X.2.2.2.2.1 hG hw rfl rfl hlk (X.2.2.2.2.1 _ hini) hdd hR, hy1, X.2.2.2.2.1 _ hin⟩ (am_pre X hEs hEC hP hD hS) rfl (by rw [List.length_map]; simpa using han) hsz (by simp [am_v]) (lv_room hW) hd ⟨hk, hj⟩
theorem am_ck_VN (X : am_X p s m args c cc own Ts D cl tys A nL ca nt) (hEs : E A s) (hEC : am_EC E) (hM : am_Met l E D cl tys ou ca y ws fr lo pre f) (hG : GoodIn Ts ws) (hw : ws = Jvm.Cond.code y bytes maxL ret :: ws') (hini : Jvm.Cond.initialized y.cls ∈ Ts) {host : String} (hlk : va_Nw (.methodLinkNest own idx y host) s) (hin : Jvm.Cond.instanceMethod y ∈ Ts) (hsel : Jvm.Cond.selects y.cls y y ∈ Ts) (hpa : ∀ a w, pre a w → ∃ q a' ci fs r, a = .inr (.inl q) :: a' ∧ w[q]? = some (.inr (ci, fs)) ∧ cl[ci]? = some r ∧ r.1 = y.cls)
    (hdd : y.cls ≠ "java/lang/invoke/MethodHandle" ∧ y.cls ≠ "java/lang/invoke/VarHandle" ∧ (parseMethodDescriptor y.desc).map (fun d => d.parameters.length) = some n) (hR : fr + 1 ≤ R.frames ∧ 8 + (maxL + 11) + lo ≤ R.locals) (hd : decode cc pc = .ok (.invokevirtual idx, 3)) : am_CK p l e R s m args below meth c D cl A ou ca nL pc (n + 1) pre f := by
  intro a wc ad H locs ls k j rest han hp hP hD hS hsz hW hk hj
  obtain ⟨q, a', ci, fs, r, rfl, hq, hc, hr⟩ := hpa a wc hp
  have hrec := va_recv X.2.2.2.2.2.1 hP hc (am_w_get hq)
  rw [hr] at hrec
  have hpre := am_pre (a := .inr (.inl q) :: a') X hEs hEC hP hD hS
  exact va_runVN (C := y.cls) (nL := nL) (Ts := Ts) (own := own) (bytes := bytes) (maxL := maxL) (ret := ret) (n := n) (As := a'.map (am_v ad ou)) (b := ad q) ⟨X.1, X.2.1, X.2.2.1, X.2.2.2.1, X.2.2.2.2.1⟩ (hM ad H.size _ wc hp) ⟨va_cnB n X.2.2.2.2.1 hG hw rfl rfl hlk (X.2.2.2.2.1 _ hini) hdd hR, X.2.2.2.2.1 _ hin, X.2.2.2.2.1 _ hsel⟩ ⟨hpre.1, hrec, hpre.2⟩ rfl (by rw [List.length_map]; simpa using han) hsz (by simp [am_v]) (lv_room hW) hd ⟨hk, hj⟩
theorem am_ck_O (X : am_X p s m args c cc own Ts D cl tys A nL ca nt) (hlk : Jvm.Cond.methodLink own idx Lib.objectInit ∈ Ts) (hin : Jvm.Cond.instanceMethod Lib.objectInit ∈ Ts) (hcd : Jvm.Cond.code Lib.objectInit ⟨#[0xb1]⟩ 1 none ∈ Ts) (hR : 1 ≤ R.frames ∧ 40 ≤ R.locals) (hd : decode cc pc = .ok (.invokespecial idx, 3)) : am_CK p l e R s m args below meth c D cl A ou ca nL pc 1 (fun a _ => ∃ q, a = [.inr (.inl q)]) (fun _ w => (none, w, 0, 0)) := by
  rintro a wc ad H locs ls k j rest han ⟨q, rfl⟩ hP hD hS hsz hW hk hj
  intro T hT X0
  obtain ⟨vm', X', st⟩ := X0.initObject X.1 X.2.2.2.1 (X.2.2.2.2.1 _ hlk) (X.2.2.2.2.1 _ hin) (X.2.2.2.2.1 _ hcd) (g := F0 m pc ls (.ref (ad q) :: rest)) rfl (by rw [X.2.2.1]; exact hsz) rfl (by rw [X.2.1]; exact hd) hR.1 (by have h9 : 2 * (F0 m pc ls (.ref (ad q) :: rest)).monitorRoom = 0 := rfl; have h8 := hR.2; omega)
  refine ⟨none, T, T.setVm vm', T.setVm vm', [], hT, ?_, ?_, rfl, rfl, ⟨⟨ad, fun _ _ => rfl, rfl, ?_, hD.self⟩, Nat.le_refl _, fun _ _ _ => rfl⟩, st⟩
  · rw [List.append_nil]
    exact X'
  · intro q hq
    cases hq
  · show va_P D cl (am_w ad ou ca wc) T.heap
    rw [hT]
    exact hP
/-- an instruction of three bytes that the machine takes for a call -/
theorem am_ck_W {pr0 : List am_V → Prop} {val : List am_V → am_V} (hrow : ∀ (a : List am_V) (ad : Nat → Nat) (H : Heap) (locs : List Loc) (ls : Array Slot) (k j : Nat) (rest : List Value) (Q : State → Prop), pr0 a → va_S A s.heap H locs → ls.size = nL → W p l e R s m args below meth c H locs k j Q (F0 m (pc + 3) ls (am_v ad ou (val a) :: rest)) → W p l e R s m args below meth c H locs k j Q (F0 m pc ls ((a.map (am_v ad ou)).reverse ++ rest))) : am_CK p l e R s m args below meth c D cl A ou ca nL pc n (fun a w => w = [] ∧ pr0 a) (fun a _ => (some (val a), [], 0, 0)) := by
  rintro a wc ad H locs ls k j rest han ⟨rfl, hp⟩ hP hD hS hsz hW hk hj
  intro T hT X0
  obtain ⟨t, st, T', hT', X', rfl⟩ := hrow a ad H locs ls k j rest (fun t => ∃ T' : State, T'.heap = H ∧ Stand p l e R s m args below meth c T' locs k j ∧ t = T'.setTop (F0 m (pc + 3) ls (am_v ad ou (val a) :: rest))) hp hS hsz (fun T' hT' X' => ⟨_, Steps.refl _, T', hT', X', rfl⟩) T hT X0
  refine ⟨some (am_v ad ou (val a)), T, T', T', [], hT, ?_, ?_, rfl, rfl, ⟨⟨ad, fun _ _ => rfl, rfl, ?_, hD.self⟩, ?_, ?_⟩, fun target h => st.trans h⟩
  · rw [List.append_nil]
    exact X'
  · intro q hq
    cases hq
  · show va_P D cl (am_w ad ou ca []) T'.heap
    rw [hT']
    exact hP
  · rw [hT, hT']
    exact Nat.le_refl _
  · intro q _ _
    rw [hT, hT']
end AMCN
