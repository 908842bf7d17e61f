/-! a throw out of a call, caught in the caller: the catch types cold or warm -/
def hc_G (e : Env) (s : State) (f : JFrame) (a : Addr) (t : List ExceptionTableEntry) (h : Handler) (v : Vm) : Prop := ∀ (Q : Handler → Pre) (E : CtlPost) (d : Bool) (acts : List Action), wp (findHandler.go f a t) Q E e d acts s ↔ Q h d acts (s.setVm v)
def hc_F (e : Env) (s : State) (f : JFrame) (a : Addr) (h : Handler) (v : Vm) : Prop := ∀ (Q : Handler → Pre) (E : CtlPost) (d : Bool) (acts : List Action), wp (findHandler f a) Q E e d acts s ↔ Q h d acts (s.setVm v)
section HCF
variable {e : Env} {s S : State} {f : JFrame} {a : Addr} {args : Array Value} {own name : String} {cT : ClassId} {cell : Cell} {x y : ExceptionTableEntry} {t : List ExceptionTableEntry} {h : Handler} {v : Vm}
/-- an entry that covers the pc: its type is asked -/
theorem hc_ask (hpl : e.platform.magicAccessors = ({} : Platform).magicAccessors) (hW : s.WarmedH S.vm) (hown : s.vm.findClass own = some f.method.cls) (hcov : covers x f.pc = true) (h0 : x.catchType ≠ 0) (hlink : (Cond.classLink own x.catchType name).before args s = true) (hcT : s.vm.findClass name = some cT) (hcell : S.heap[a]? = some cell) (hobj : cell.vm = .none) (hk : ∃ k, s.vm.classes[cell.cls]? = some k) :
    ∃ n : Vm, s.WarmedH n ∧ (s.vm.assignable cell.cls cT = true → hc_G e S f a (x :: t) (.found x.handlerPc) n) ∧ (s.vm.assignable cell.cls cT = false → ∀ h v, hc_G e (S.setVm n) f a t h v → hc_G e S f a (x :: t) h v) := by
  obtain ⟨c', hc', hcl⟩ := Cond.classLink_spec hown hlink e.platform hpl
  cases hcT.symm.trans hc'
  obtain ⟨dk, _, _, kt, hd, _, _, _, _, hkt, _, hopen⟩ := hcl.here
  have hn : s.WarmedH (S.vm.noted f.method.cls x.catchType (.cls cT)) := hW.noted hd hopen (State.rightAt_cls hcl)
  obtain ⟨k1, hk1⟩ := hk
  obtain ⟨k1', hk1', -⟩ := hn.alike.2.2 _ _ hk1
  obtain ⟨k2', hk2', -⟩ := hn.alike.2.2 _ _ hkt
  obtain ⟨ha, ht⟩ := (resolveClass_links e.toSetting (hW.classLinks hcl)).op (op := VmOp.resolveClass f.method.cls x.catchType) rfl
  have hal := hn.alike.assignable cell.cls cT
  have hst : ∀ k, cell.vm ≠ .statics k := fun k => by rw [hobj]; intro hh; cases hh
  have hx := hcov
  simp only [covers] at hx
  refine ⟨_, hn, fun hf Q E d acts => ?_, fun hf h v hg Q E d acts => ?_⟩
  · rw [hf] at hal
    simp [findHandler.go, hx, h0, ha, ht, hcell, hst, hk1', hk2', hal, VmOp.dirties, VmOp.acts]
  · rw [hf] at hal
    have h2 := hg Q E d acts
    rw [State.setVm_setVm] at h2
    rw [← h2]
    simp [findHandler.go, hx, h0, ha, ht, hcell, hst, hk1', hk2', hal, VmOp.dirties, VmOp.acts]
theorem hc_step {r : List Frame} {pc : Nat} (hfind : hc_F e S f a (.found pc) v) : (stepThrowing e S a (.java f :: r)).Is ((S.setVm v).setFrames (.java { f with pc := pc, stack := [.ref a] } :: r)) [] := by
  simp only [stepThrowing, searchFrame, vmDo]
  generalize hr : Sem.go _ e false [] S = res
  obtain ⟨as, rfl, ha⟩ := Sem.eq_ok_of hr (a := Handler.found pc) (s' := S.setVm v) (acts' := []) (by simp [hfind _ _ _ _])
  exact ⟨rfl, ha⟩
theorem hc_push {T : State} {g g0 : JFrame} {r : List Frame} (hr : T.frames = .java g0 :: r) : (T.setTop g).pushFrame (.throwing a) = T.setFrames (.throwing a :: .java g :: r) := by
  rw [State.pushFrame, State.frames_setTop _ hr, State.setTop_of_frames _ hr, State.setFrames_setFrames]
theorem hc_steps {tb : Tables} {T target : State} {g : JFrame} {c : Code} {below : List Frame} (h : At T g.method c below) {pc : Nat} (hfind : hc_F e ((T.setTop g).pushFrame (.throwing a)) g a (.found pc) v)
    (hrest : Steps tb e below ((T.setVm v).setTop { g with pc := pc, stack := [.ref a] }) target) : Steps tb e below ((T.setTop g).pushFrame (.throwing a)) target := by
  obtain ⟨hgo, hw⟩ := h.throwing a
  refine Steps.head hgo hw ?_
  rw [stepThread_throwing (frames_entered h.top _), (hc_step (S := (T.setTop g).pushFrame (.throwing a)) hfind).1]
  obtain ⟨g₀, hg⟩ := Option.isSome_iff_exists.mp h.top
  obtain ⟨r, hr⟩ := State.topJava?_eq_some.mp hg
  have hr' : (T.setVm v).frames = .java g₀ :: r := hr
  rw [State.setTop_of_frames _ hr'] at hrest
  rw [hr, List.tail_cons, hc_push hr]
  have e1 : (T.setFrames (.throwing a :: .java g :: r)).setVm v = (T.setVm v).setFrames (.throwing a :: .java g :: r) := rfl
  rw [e1, State.setFrames_setFrames]
  exact hrest
end HCF
section HCC
variable {p : Program} {l : Launch} {e : Env} {R : Room} {s T : State} {m : MethodId} {args av : Array Value} {below : List Frame} {meth : Method} {c : Code} {H : Heap} {locs : List Loc} {cells slots : Nat} {Q : State → Prop} {y : MethodName} {ws : List Cond} {rm : Room} {Pc : Array Value → State → Prop} {Qc : Array Value → State → Outcome → State → Prop} {bytes : ByteArray} {maxL k n : Nat} {ret : Option FieldType} {F : List Loc → Prop}
/-- a call whose callee throws -/
theorem ht_thr (X : Stand p l e R s m args below meth c T locs cells slots) {g : JFrame} {mk : MethodId} {ig : Instr} {len : Nat} (hg : g.method = m) (hsize : g.locals.size = c.maxLocals) (hdg : decode c.code g.pc = .ok (ig, len)) (hn : T.methodNamed? y = some mk) (hM : MetFree l y (headSpec ws rm) Pc (fun _ _ _ _ _ => True) Qc)
    (hframes : rm.frames + 1 ≤ R.frames) (hlocals : 2 * g.monitorRoom + (g.stack.map fun v => v.category).sum + (maxL + 11) + rm.locals ≤ R.locals) (hws : ∀ w ∈ ws, w.before av T = true) (hcode : (Cond.code y bytes maxL ret).before av T = true) (hini : (Cond.initialized y.cls).before av T = true) (hc : cells + rm.cells ≤ R.cells) (hs : slots + rm.slots ≤ R.slots) (hP : Pc av (T.calling g mk av))
    (hQ : ∀ o t, Qc av (T.calling g mk av) o t → ∃ x L, o = .threw x ∧ (T.calling g mk av).WarmedH t.vm ∧ (T.calling g mk av).sameButNew ({ t with vm := (T.calling g mk av).vm } : State) L k n ∧ F L) :
    ∃ (x : Addr) (t T' : State) (L : List Loc), Qc av (T.calling g mk av) (.threw x) t ∧ Stand p l e R s m args below meth c T' (locs ++ L) (cells + k) (slots + n) ∧ T'.heap = t.heap ∧ T'.vm = t.vm ∧ F L ∧ Steps p.tables e below (doInvoke e (T.setTop g) [] mk av).1 ((T'.setTop g).pushFrame (.throwing x)) := by
  obtain ⟨methY, cY, hmY, hcY, -, hlY, -, -, -, -⟩ := Cond.code_spec hn hcode
  obtain ⟨kY, hkY, -⟩ := className_of_methodNamed hn
  have hinitY : kY.init = .initialized := Cond.initialized_spec (findClass_of_methodNamed hn) hkY hini
  have h : At T g.method c below := by rw [hg]; exact X.here
  have happ : (headSpec ws rm).appliesLoose y e.platform (T.calling g mk av) = true :=
    Spec.appliesLoose_calling (g := g) h hdg hn hkY hinitY (X.room_calling (g := g) (R' := rm) hsize hmY hcY hframes (by rw [hlY]; omega) hc hs) (atoms_intro hws)
  obtain ⟨mid, hmid⟩ := h.above
  have hfr : (T.setTop g).frames = (.java g :: mid) ++ below := by rw [State.frames_setTop' g h.top, hmid]; rfl
  obtain ⟨o, s₂, hsteps, -, hend, hq⟩ := Steps.callFree hM p X.admits X.cas X.clock (acts := []) hfr happ hP trivial
  have hq' : Qc av (T.calling g mk av) o s₂ := hq
  rw [State.frames_setTop' g h.top] at hend
  obtain ⟨x, L, rfl, hW₂, ⟨e2, q2, q3, q4, q5, q6⟩, hF⟩ := hQ _ _ hq'
  have hW' : T.WarmedH s₂.vm := hW₂
  have hf₂ : s₂.frames = .throwing x :: .java g :: T.frames.tail := hend
  obtain ⟨g₀, hg0⟩ := Option.isSome_iff_exists.mp h.top
  obtain ⟨r, hr⟩ := State.topJava?_eq_some.mp hg0
  have hr' : (({ T with heap := s₂.heap, slotsUsed := s₂.slotsUsed } : State).setVm s₂.vm).frames = .java g₀ :: r := hr
  have hs₂ : s₂ = ((({ T with heap := s₂.heap, slotsUsed := s₂.slotsUsed } : State).setVm s₂.vm).setTop g).pushFrame (.throwing x) := by
    rw [hc_push hr']
    have e3 := congrArg (fun z : State => z.setVm s₂.vm) e2
    have e4 : s₂ = ({ (T.calling g mk av).setFrames s₂.frames with heap := s₂.heap, slotsUsed := s₂.slotsUsed } : State).setVm s₂.vm := e3
    refine e4.trans ?_
    rw [hf₂, State.calling_eq h.top, State.setFrames_setFrames, hr]
    rfl
  have hsame : T.sameButNew ({ T with heap := s₂.heap, slotsUsed := s₂.slotsUsed } : State) L k n := by
    refine ⟨?_, q2, q3, q4, q5, q6⟩
    obtain ⟨t, ht, -⟩ := State.frames_cons hr
    show ({ T with heap := s₂.heap, slotsUsed := s₂.slotsUsed } : State) = { T.setFrames T.frames with heap := s₂.heap, slotsUsed := s₂.slotsUsed }
    rw [State.setFrames_self ht]
  refine ⟨x, s₂, ({ T with heap := s₂.heap, slotsUsed := s₂.slotsUsed } : State).setVm s₂.vm, L, hq', ⟨X.admits, X.cas, X.clock, X.frames, X.room, X.hears, X.method, X.code, (X.here.setHeapUsed s₂.heap s₂.slotsUsed).setVm hW'.alike, X.tail, State.WarmedH.trans X.warmed hW', X.limits, X.bytes, X.same.trans (hsame.setVm s.vm)⟩, rfl, rfl, hF, ?_⟩
  rw [← hs₂]
  exact hsteps
end HCC
