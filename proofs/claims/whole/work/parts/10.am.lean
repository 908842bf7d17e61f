/-! AN ABSTRACT MACHINE. Its values are ints, places of the world, and things outside it (0 null, k + 1 the k-th constant). Its world is a list of cells: arrays of ints (type, length, contents) and objects (class number, fields). A method is run on it by evaluation; what it does there, the JVM does. -/
abbrev am_V : Type := Int32 ⊕ (Nat ⊕ Nat)
abbrev am_C : Type := (Nat × Nat × (Nat → Int32)) ⊕ (Nat × List am_V)
/-- pc, local variables, operand stack, world, cells made, slots made -/
abbrev am_S : Type := Nat × List (Option am_V) × List am_V × List am_C × Nat × Nat
/-- an end: the answer, the world -/
abbrev am_Z : Type := Option am_V × List am_C
/-- a method's meaning: arguments and world, to answer, world, cells made, slots made -/
abbrev am_M : Type := List am_V → List am_C → Option am_V × List am_C × Nat × Nat
def am_v (ad ou : Nat → Nat) (v : am_V) : Value := match v with
  | .inl x => .int x
  | .inr (.inl k) => .ref (ad k)
  | .inr (.inr 0) => .null
  | .inr (.inr (k + 1)) => .ref (ou k)
/-- an array's contents: of type 4 (long) those that ints give -/
def am_c (t : Nat) (f : Nat → Int32) : (Nat → Int32) ⊕ (Nat → Int64) ⊕ (Nat → UInt32) ⊕ (Nat → UInt64) ⊕ (Nat → Option Nat) := match t with
  | 4 => .inr (.inl (fun i => (f i).toInt64))
  | _ => .inl f
def am_e (ad ou : Nat → Nat) (ca : Nat → ClassId) (x : am_C) : va_E := match x with
  | .inl (t, n, f) => .inl (ca t, n, am_c t f)
  | .inr (c, fs) => .inr (c, fs.map (am_v ad ou))
def am_w (ad ou : Nat → Nat) (ca : Nat → ClassId) (w : List am_C) : va_W := w.mapIdx (fun k x => (ad k, am_e ad ou ca x))
def am_l (ad ou : Nat → Nat) (L : List (Option am_V)) : List (Nat × Value) := L.zipIdx.filterMap (fun q => q.1.map (fun v => (q.2, am_v ad ou v)))
theorem am_cat (ad ou : Nat → Nat) (v : am_V) : (am_v ad ou v).category = 1 := by
  rcases v with x | k | k
  · rfl
  · rfl
  · cases k <;> rfl
theorem am_w_get {ad ou : Nat → Nat} {ca : Nat → ClassId} {w : List am_C} {k : Nat} {x : am_C} (h : w[k]? = some x) : (am_w ad ou ca w)[k]? = some (ad k, am_e ad ou ca x) := by
  simp [am_w, List.getElem?_mapIdx, h]
theorem am_w_inv {ad ou : Nat → Nat} {ca : Nat → ClassId} {w : List am_C} {k : Nat} {q : Nat × va_E} (h : (am_w ad ou ca w)[k]? = some q) : ∃ x, w[k]? = some x ∧ q = (ad k, am_e ad ou ca x) := by
  simp only [am_w, List.getElem?_mapIdx, Option.map_eq_some_iff] at h
  obtain ⟨x, h1, h2⟩ := h
  exact ⟨x, h1, h2.symm⟩
theorem am_w_len (ad ou : Nat → Nat) (ca : Nat → ClassId) (w : List am_C) : (am_w ad ou ca w).length = w.length := by simp [am_w]
theorem am_w_set (ad ou : Nat → Nat) (ca : Nat → ClassId) (w : List am_C) (k : Nat) (x : am_C) : am_w ad ou ca (w.set k x) = (am_w ad ou ca w).set k (ad k, am_e ad ou ca x) := by
  apply List.ext_getElem?
  intro i
  by_cases h : k = i
  · subst h
    by_cases h2 : k < w.length
    · simp [am_w, List.getElem?_mapIdx, List.getElem?_set, h2]
    · simp [am_w, List.getElem?_mapIdx, List.getElem?_set, h2]
  · simp [am_w, List.getElem?_mapIdx, List.getElem?_set, h]
theorem am_w_push (ad ou : Nat → Nat) (ca : Nat → ClassId) (w : List am_C) (x : am_C) : am_w ad ou ca (w ++ [x]) = am_w ad ou ca w ++ [(ad w.length, am_e ad ou ca x)] := by
  simp [am_w, List.mapIdx_append]
theorem am_l_mem {ad ou : Nat → Nat} {L : List (Option am_V)} {i : Nat} {v : Value} : (i, v) ∈ am_l ad ou L ↔ ∃ u, L[i]? = some (some u) ∧ am_v ad ou u = v := by
  simp only [am_l, List.mem_filterMap]
  constructor
  · rintro ⟨⟨o, j⟩, h1, h2⟩
    have h3 := List.mk_mem_zipIdx_iff_getElem?.mp h1
    cases o with
    | none => cases h2
    | some u =>
      have h4 : (j, am_v ad ou u) = (i, v) := Option.some.inj h2
      cases h4
      exact ⟨u, h3, rfl⟩
  · rintro ⟨u, h1, rfl⟩
    exact ⟨(some u, i), List.mk_mem_zipIdx_iff_getElem?.mpr h1, rfl⟩
theorem am_l_at {ad ou : Nat → Nat} {L : List (Option am_V)} {ls : Array Slot} {nL i : Nat} {u : am_V} (h : lv_has ls nL (am_l ad ou L)) (hu : L[i]? = some (some u)) : ls[i]? = some (.val (am_v ad ou u)) := h.2.2 (i, _) (am_l_mem.mpr ⟨u, hu, rfl⟩)
theorem am_l_set {ad ou : Nat → Nat} {L : List (Option am_V)} {ls : Array Slot} {nL i : Nat} {u : am_V} (h : lv_has ls nL ((i, am_v ad ou u) :: (am_l ad ou L).filter (fun q => !(q.1 == i) && !(q.1 + 1 == i && q.2.category == 2)))) : lv_has ls nL (am_l ad ou (L.set i (some u))) := by
  refine ⟨h.1, h.2.1, ?_⟩
  rintro ⟨j, v⟩ hq
  obtain ⟨u', h1, rfl⟩ := am_l_mem.mp hq
  apply h.2.2 (j, _)
  by_cases hj : i = j
  · subst hj
    rw [List.getElem?_set] at h1
    simp only [if_true] at h1
    split at h1
    · have h2 : u = u' := Option.some.inj (Option.some.inj h1)
      subst h2
      exact List.mem_cons_self
    · cases h1
  · rw [List.getElem?_set_ne hj] at h1
    refine List.mem_cons_of_mem _ (List.mem_filter.mpr ⟨am_l_mem.mpr ⟨u', h1, rfl⟩, ?_⟩)
    have h2 : ¬ j = i := fun q => hj q.symm
    simp [am_cat, h2]
/-- array types -/
def am_ty (t : Nat) : FieldType := match t with
  | 0 => .int
  | 1 => .char
  | 2 => .boolean
  | 3 => .byte
  | _ => .long
/-- what a field, or an answer, of this type takes as it is -/
def am_fit (ty : FieldType) (v : am_V) : Bool := match ty, v with
  | .int, .inl _ => true
  | .boolean, .inl x => x == 0 || x == 1
  | .byte, .inl x => x == 0
  | .char, .inl x => 0 ≤ x && x ≤ 65535
  | .object _, .inr _ => true
  | .array _, .inr _ => true
  | _, _ => false
theorem am_fit_ok {ty : FieldType} {v : am_V} (ad ou : Nat → Nat) (h : am_fit ty v = true) : narrow ty (am_v ad ou v) = am_v ad ou v ∧ fits ty (am_v ad ou v) = true := by
  rcases v with x | r
  · cases ty with
    | int => exact ⟨rfl, rfl⟩
    | boolean =>
      have h1 : x = 0 ∨ x = 1 := by simpa [am_fit] using h
      rcases h1 with rfl | rfl
      · exact ⟨rfl, rfl⟩
      · exact ⟨rfl, rfl⟩
    | byte =>
      have h1 : x = 0 := by simpa [am_fit] using h
      subst h1
      exact ⟨rfl, rfl⟩
    | char =>
      have h1 : 0 ≤ x ∧ x ≤ 65535 := by simpa [am_fit] using h
      obtain ⟨q, hq, rfl⟩ := nI_of2 (x := x) (M := 65535) (n := 65535) (by decide) (Int32.not_lt.mpr h1.1) h1.2
      exact pk_charN (by omega)
    | _ => simp [am_fit] at h
  · cases ty with
    | object n =>
      rcases r with k | k
      · exact ⟨rfl, rfl⟩
      · cases k <;> exact ⟨rfl, rfl⟩
    | array n =>
      rcases r with k | k
      · exact ⟨rfl, rfl⟩
      · cases k <;> exact ⟨rfl, rfl⟩
    | _ => simp [am_fit] at h
/-! the machine's tables of one method: code; fields by pool index (class number, field, 0 own or visible / 1 a nest mate's / 2 final in a constructor); the field types; classes by pool index (class number, first values); constants by pool index; calls by pc (the places that go to the callee, or none: all, as they are; how many arguments, the receiver counted; what the callee asks; its meaning); arrays outside (type, length, contents); how many array types there are; local variables; the cells, slots that may be made; the world's length at the start; the answer's type -/
abbrev am_T : Type := List (Nat × Instr × Nat) × (Nat → Option (Nat × Nat × Nat)) × (Nat → Nat → FieldType) × (Nat → Option (Nat × List am_V)) × (Nat → Option am_V) × (Nat → Option (Option (List Nat) × Nat × (List am_V → List am_C → Prop) × am_M)) × (Nat → Option (Nat × Nat × (Nat → Int32))) × Nat × Nat × Nat × Nat × Nat × Option FieldType
def am_at (code : List (Nat × Instr × Nat)) (pc : Nat) : Option (Instr × Nat) := match code with
  | [] => none
  | q :: r => bif q.1 == pc then some q.2 else am_at r pc
theorem am_at_mem {code : List (Nat × Instr × Nat)} {pc : Nat} {x : Instr × Nat} (h : am_at code pc = some x) : (pc, x) ∈ code := by
  induction code with
  | nil => cases h
  | cons q r ih =>
    unfold am_at at h
    cases hq : q.1 == pc with
    | true =>
      rw [hq] at h
      have h1 : q.2 = x := Option.some.inj h
      have h2 : q.1 = pc := by simpa using hq
      rw [← h1, ← h2]
      exact List.mem_cons_self
    | false =>
      rw [hq] at h
      exact List.mem_cons_of_mem _ (ih h)
/-- the target of a jump -/
def am_tg (pc : Nat) (off : Int) : Nat := ((pc : Int) + off).toNat
def am_ok0 (pc : Nat) (off : Int) : Bool := decide (0 ≤ (pc : Int) + off)
theorem am_tg_ok {pc : Nat} {off : Int} (h : am_ok0 pc off = true) : (pc : Int) + off = (am_tg pc off : Int) := by
  have h1 : 0 ≤ (pc : Int) + off := of_decide_eq_true h
  exact (Int.toNat_of_nonneg h1).symm
def am_g (L : List (Option am_V)) (i : Nat) : Option am_V := match L[i]? with
  | some (some v) => some v
  | _ => none
theorem am_g_ok {L : List (Option am_V)} {i : Nat} {v : am_V} (h : am_g L i = some v) : L[i]? = some (some v) := by
  unfold am_g at h
  split at h
  · rename_i u hu
    rw [hu, Option.some.inj h]
  · cases h
