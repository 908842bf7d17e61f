/-! a throw of which the end's heap is known: the stand is founded anew on the state that it has come to -/
section HTB
variable {p : Program} {l : Launch} {e : Env} {R : Room} {s T : State} {m : MethodId} {args : Array Value} {below : List Frame} {meth : Method} {c : Code} {Q : State → Prop} {cc : ByteArray} {H : Heap} {locs : List Loc} {cells slots pc ix kx ic q : Nat} {ls : Array Slot} {own cls tx : String} {names : List String}
def ht_s (s T : State) : State := { s with heap := T.heap, slotsUsed := T.slotsUsed, vm := T.vm }
theorem ht_hears {s T : State} {m : MethodId} {below : List Frame} (ha : s.vm.Alike T.vm) (h : s.hears m below = true) : (ht_s s T).hears m below = true := by
  have hm : ∀ q, (ht_s s T).vm.method? q = s.vm.method? q := fun q => ha.method? q
  have hc : ∀ q, (ht_s s T).code? q = s.code? q := fun q => by rw [State.code?_eq, State.code?_eq, hm]
  rcases below with _ | ⟨f, r⟩
  · simpa [State.hears, hm] using h
  · cases f <;> simpa [State.hears, hm, hc] using h
theorem ht_base (X : Stand p l e R s m args below meth c T locs cells slots) (hc : cells ≤ R.cells) (hs : slots ≤ R.slots) : Stand p l e { R with cells := R.cells - cells, slots := R.slots - slots } (ht_s s T) m args below meth c T [] 0 0 := by
  have hm : (ht_s s T).vm.method? m = some meth := X.method'
  have hu := X.used
  have hh := X.heapSize
  refine ⟨X.admits, X.cas, X.clock, X.frames, ?_, ht_hears X.warmed.alike X.hears, hm, X.code, X.here, X.tail, State.WarmedH.refl _, X.limits, X.bytes, ?_⟩
  · have h := X.room
    have hf : (ht_s s T).frames = .invoking m args :: below := X.frames
    simp only [State.hasRoom, Bool.and_eq_true, decide_eq_true_eq] at h ⊢
    rw [State.localsInUse_invoking hf hm X.code]
    rw [State.localsInUse_invoking X.frames X.method X.code] at h
    obtain ⟨⟨⟨⟨h1, h2⟩, h3⟩, h4⟩, h5⟩ := h
    refine ⟨⟨⟨⟨h1, h2⟩, ?_⟩, ?_⟩, X.book⟩
    · show T.heap.size + (R.cells - cells) ≤ _
      omega
    · show T.slotsUsed + (R.slots - slots) ≤ _
      omega
  · have h1 := congrArg (fun z : State => z.setVm T.vm) X.same.1
    refine ⟨h1, Nat.le_refl _, Nat.le_refl _, ?_, ?_, fun a c h => ⟨c, h, rfl, rfl, fun _ _ => rfl⟩⟩
    · show T.slotsUsed = T.slotsUsed + ((T.heap.toList.drop T.heap.size).map (·.slots.size)).sum
      rw [List.drop_eq_nil_of_le (by simp)]
      rfl
    · show ((T.heap.toList.drop T.heap.size).map (·.slots.size)).sum ≤ 0
      rw [List.drop_eq_nil_of_le (by simp)]
      exact Nat.le_refl _
theorem ht_back {U : State} {k n : Nat} (X : Stand p l e R s m args below meth c T locs cells slots) (h : (ht_s s T).sameButNew ({ U with vm := (ht_s s T).vm } : State) [] k n) : s.sameButNew ({ U with vm := s.vm } : State) locs (cells + k) (slots + n) := by
  have h1 : (T.setVm s.vm).sameButNew ({ U with vm := s.vm } : State) [] k n := by
    refine ⟨?_, h.2.1, h.2.2.1, h.2.2.2.1, h.2.2.2.2.1, h.2.2.2.2.2⟩
    have e1 := congrArg (fun z : State => z.setVm s.vm) h.1
    have e2 := congrArg (fun z : State => z.setFrames U.frames) X.same.1
    have e3 : (T.setVm s.vm).setFrames U.frames = { s.setFrames U.frames with heap := T.heap, slotsUsed := T.slotsUsed } := by
      refine e2.trans ?_
      show ({ (s.setFrames T.frames).setFrames U.frames with heap := T.heap, slotsUsed := T.slotsUsed } : State) = _
      rw [State.setFrames_setFrames]
    show ({ U with vm := s.vm } : State) = { (T.setVm s.vm).setFrames U.frames with heap := U.heap, slotsUsed := U.slotsUsed }
    rw [e3]
    exact e1
  have h2 := X.same.trans h1
  rw [List.append_nil] at h2
  exact h2
theorem ht_same {s U : State} {k n a : Nat} {ce : Cell} (h : s.sameButNew U [] k n) (ha : s.heap[a]? = some ce) : U.heap[a]? = some ce := by
  obtain ⟨c', h1, h2, h3, h4⟩ := h.2.2.2.2.2 a ce ha
  rw [h1]
  have : c'.slots = ce.slots := Array.ext_getElem? (fun i => h4 i (by simp))
  rw [h2, this]
theorem ht_W2 (hexec : p.tables.exec = Jvm.exec) (hb : c.code = cc) (htr : e.platform.stackTraces = false) (hlocks : meth.locks = false) (hsz : ls.size = c.maxLocals)
    (hall : ∀ U : State, s.WarmedH U.vm → U.heap = H → U.vm.findClass own = some m.cls ∧ (∀ a ∈ Bundle.ownAtoms own ic cls names, a.before args U = true) ∧ (Cond.classLink own ix cls).before args U = true ∧ (Cond.instantiable cls 6).before args U = true ∧ (Cond.initialized cls).before args U = true ∧ vk_R own kx tx q U)
    (hcls : Bundle.fit cls = true) (hnames : ∀ n ∈ names, Bundle.fit n = true) (hd0 : decode cc pc = .ok (.new ix, 3)) (hd3 : decode cc (pc + 3) = .ok (.dup, 1)) (hd4 : decode cc (pc + 4) = .ok (.ldc kx, 2)) (hd6 : decode cc (pc + 6) = .ok (.invokespecial ic, 3)) (hd9 : decode cc (pc + 9) = .ok (.athrow, 1)) (hnoh : ∀ x ∈ c.exceptionTable.toList, covers x (pc + 9) = false)
    (hcells : cells + 1 ≤ R.cells) (hslots : slots + 6 ≤ R.slots) (hfr : names.length + 3 < R.frames) (hlo : 1 + (13 * (names.length + 1) + 42) ≤ R.locals)
    (kk : ∀ (U : State) (ce : Cell), Ended U below (.threw H.size) → U.status = .running → s.WarmedH U.vm → s.sameButNew ({ U with vm := s.vm } : State) locs (cells + 1) (slots + 6) → (∀ q : Nat, q < H.size → U.heap[q]? = H[q]?) → H.size ≤ U.heap.size → U.heap[H.size]? = some ce → ce.vm = .none → s.vm.findClass cls = some ce.cls → Q U) : W p l e R s m args below meth c H locs cells slots Q (F0 m pc ls []) := by
  intro T hT X
  have X' := ht_base X (by omega) (by omega)
  obtain ⟨g1, g2, g3, g4, g5, g6⟩ := hall (ht_s s T) X.warmed hT
  refine ht_W (R := { R with cells := R.cells - cells, slots := R.slots - slots }) (s := ht_s s T) (own := own) (cls := cls) (names := names) (ix := ix) (kx := kx) (ic := ic) (tx := tx) (q := q) hexec hb htr hlocks hsz g1 g2 hcls hnames g3 g4 g5 g6 hd0 hd3 hd4 hd6 hd9 hnoh (locs := []) (cells := 0) (slots := 0) (fun _ h => absurd h List.not_mem_nil) (by rw [show (ht_s s T).heap = H from hT]; exact Nat.le_refl _) (by show 0 + 1 ≤ R.cells - cells; omega) (by show 0 + 6 ≤ R.slots - slots; omega) hfr hlo (fun U ce h1 h2 h3 h4 h5 h6 => ?_) T hT X'
  have hsz : H.size ≤ U.heap.size := by
    have := h4.2.1
    rw [show (ht_s s T).heap = H from hT] at this
    exact this
  refine kk U ce h1 h2 (State.WarmedH.trans X.warmed h3) (by simpa using ht_back X h4) (fun q hq => ?_) hsz h5 h6.vm (by rw [← X.warmed.alike.findClass]; exact h6.cls)
  have h7 : (ht_s s T).heap[q]? = some H[q] := by
    rw [show (ht_s s T).heap = H from hT]
    exact Array.getElem?_eq_getElem hq
  have h8 : U.heap[q]? = some H[q] := (ht_same h4 h7 :)
  rw [h8]
  exact (Array.getElem?_eq_getElem hq).symm
end HTB
