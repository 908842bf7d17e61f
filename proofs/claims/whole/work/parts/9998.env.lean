/-! what the claim's start gives: the environment E -/
def hz_ws : List Cond := ((hx_st.map (hx_w "HoleTemplates")).flatten).filter (fun w => w.onTables)
def hz_sp : List Cond := [.laysStatic Bundle.tN "UNASSIGNED_STACK" Bundle.steD, .laysStatic Bundle.tN "SUPPRESSED_SENTINEL" Bundle.listD, .isRef (.static Bundle.tN "UNASSIGNED_STACK" Bundle.steD), .isRef (.static Bundle.tN "SUPPRESSED_SENTINEL" Bundle.listD)]
set_option maxRecDepth 100000 in
theorem hz_split : ∀ q ∈ hx_st, ∀ w ∈ hx_w "HoleTemplates" q, (w.onTables || hz_sp.contains w) = true := by decide +kernel
set_option maxRecDepth 100000 in
theorem hz_keep : ∀ w ∈ hz_ws, (w.onTables && w.keepsCast) = true := by decide +kernel
set_option maxRecDepth 100000 in
theorem hz_tb : ∀ w ∈ hz_ws, lw_tbl.contains w = true := by decide +kernel
def hz_L (n d : String) (A : Nat → Prop) (U : State) : Prop := ∃ (c : ClassId) (k : Class) (i : Nat) (f : Field) (a : Nat) (cell : Cell), U.vm.findClass Bundle.tN = some c ∧ U.fieldFound? Bundle.tN n d = some (c, k, i, f) ∧ f.isStatic = true ∧ k.statics = some a ∧ U.heap[a]? = some cell ∧ cell.vm.isStatics = true ∧ cell.cls = c ∧ f.slot < cell.slots.size ∧ k.staticTypes[f.slot]? = some f.type ∧ ¬ A a
theorem hz_L.use {n d : String} {A : Nat → Prop} {U : State} {args : Array Value} (h : hz_L n d A U) : (Cond.laysStatic Bundle.tN n d).before args U = true := by
  obtain ⟨c, k, i, f, a, cell, h1, h2, h3, h4, h5, h6, h7, h8, h9, -⟩ := h
  exact Cond.laysStatic_of h1 h2 h3 h4 h5 h6 h7 h8 h9
theorem hz_L.of {n d : String} {A : Nat → Prop} {s : State} {args : Array Value} (h : (Cond.laysStatic Bundle.tN n d).before args s = true) (hA : ∀ a : Nat, a < s.heap.size → ¬ A a) : hz_L n d A s := by
  obtain ⟨c, k, i, f, a, cell, h1, h2, h3, h4, h5, h6, h7, h8, h9⟩ := Cond.laysStatic_spec h
  exact ⟨c, k, i, f, a, cell, h1, h2, h3, h4, h5, h6, h7, h8, h9, hA a (Array.getElem?_eq_some_iff.mp h5).1⟩
theorem hz_L.next {n d : String} {A A' : Nat → Prop} {s U : State} (hvm : s.vm.Alike U.vm) (hAA : ∀ q, A' q → A q) (hk : ∀ q : Nat, q < s.heap.size → ¬ A q → U.heap[q]? = s.heap[q]?) (h : hz_L n d A s) : hz_L n d A' U := by
  obtain ⟨c, k, i, f, a, cell, h1, h2, h3, h4, h5, h6, h7, h8, h9, h10⟩ := h
  obtain ⟨k', hi', he⟩ := State.fieldFound?_setVm hvm h2
  exact ⟨c, k', i, f, a, cell, by rw [hvm.findClass]; exact h1, hi', h3, by rw [he]; exact h4, by rw [hk a (Array.getElem?_eq_some_iff.mp h5).1 h10]; exact h5, h6, h7, h8, by rw [he]; exact h9, fun z => h10 (hAA a z)⟩
theorem hz_isref {C n d : String} {v : Value} {A : Nat → Prop} {U : State} {args : Array Value} (hv : v.isRef = true) (h : va_Z C n d v A U U.heap) : (Cond.isRef (.static C n d)).before args U = true := by
  obtain ⟨cf, kf, fi, f, a, cell, h1, h2, h3, h4, h5, h6, h7, -⟩ := h
  have e : (Term.static C n d).eval args U none [] U = some v := by
    simp [Term.eval, State.fieldNamed?, h1, h2, h4, h5, h6, h7]
  cases v <;> first | (simp [Cond.before, Cond.holds, Cond.value, e]; done) | (cases hv)
theorem hz_isrefq {C n d : String} {A : Nat → Prop} {U : State} {args : Array Value} (h : va_Zq C n d A U U.heap) : (Cond.isRef (.static C n d)).before args U = true := by
  rcases h with h | ⟨t, h⟩
  · exact hz_isref rfl h
  · exact hz_isref rfl h
def hz_no (U : State) : Prop := ∀ c t, U.vm.findClass "java/lang/IllegalStateException" = some c → (U.vm.findClass "java/lang/IndexOutOfBoundsException" = some t ∨ U.vm.findClass "java/lang/UnsupportedOperationException" = some t) → U.vm.assignable c t = false
def hz_E (ou : Nat → Nat) (z : Nat) : (Nat → Prop) → State → Prop := fun A U => hg_Nw U ∧ hg_St ou A U ∧ va_Z "jdk/internal/util/Preconditions" "SIOOBE_FORMATTER" "Ljava/util/function/BiFunction;" (am_v ou ou (.inr (.inr z))) A U U.heap ∧ (∀ w ∈ hz_ws, va_Nw w U) ∧ hz_L "UNASSIGNED_STACK" Bundle.steD A U ∧ hz_L "SUPPRESSED_SENTINEL" Bundle.listD A U ∧ va_Zq Bundle.tN "UNASSIGNED_STACK" Bundle.steD A U U.heap ∧ va_Zq Bundle.tN "SUPPRESSED_SENTINEL" Bundle.listD A U U.heap ∧ hz_no U
def hz_nest (w : Cond) : Bool := match w with
  | .fieldLinkNest .. => true
  | .methodLinkNest .. => true
  | _ => false
set_option maxRecDepth 100000 in
theorem hz_nws : ∀ w ∈ hg_nws, hz_nest w = true := by decide +kernel
set_option maxRecDepth 100000 in
theorem hz_nwt : ∀ w ∈ hg_nws, lw_tbl.contains w = true := by decide +kernel
theorem hz_nwarm {w : Cond} {s U : State} (hn : hz_nest w = true) (hW : s.WarmedH U.vm) (h : va_Nw w s) : va_Nw w U := by
  cases w with
  | fieldLinkNest a i b n d hh => exact va_Nw.warmF hW h
  | methodLinkNest a i x hh => exact va_Nw.warmM hW h
  | _ => cases hn
theorem hz_ntab {w : Cond} (hn : hz_nest w = true) : w.onTables = true := by
  cases w with
  | fieldLinkNest a i b n d hh => rfl
  | methodLinkNest a i x hh => rfl
  | _ => cases hn
theorem hz_warm {w : Cond} {s U : State} (hw : (w.onTables && w.keepsCast) = true) (hW : s.WarmedH U.vm) (h : va_Nw w s) : va_Nw w U := by
  rw [Bool.and_eq_true] at hw
  exact va_tabs hw.1 (rfl : (s.setVm U.vm).vm = U.vm) (Cond.before_shiftedCast (State.Shifted.of_warmed hW) w hw.2 h)
theorem hz_next {ou : Nat → Nat} {z : Nat} (A A' : Nat → Prop) (s U : State) (hW : s.WarmedH U.vm) (hAA : ∀ q, A' q → A q) (hk : ∀ q : Nat, q < s.heap.size → ¬ A q → U.heap[q]? = s.heap[q]?) (h : hz_E ou z A s) : hz_E ou z A' U := by
  obtain ⟨h1, ⟨h2, h3, h4⟩, h5, h6, h7, h8, h9, h10, h11⟩ := h
  have ha := hW.alike
  refine ⟨fun w hw => hz_nwarm (hz_nws w hw) hW (h1 w hw), ⟨fun k q hq => vk_R.warm hW (h2 k q hq), ?_, ?_⟩, ?_, fun w hw => hz_warm (hz_keep w hw) hW (h6 w hw), h7.next ha hAA hk, h8.next ha hAA hk, ?_, ?_, ?_⟩
  · exact (vk_S.kept (vk_S.moved ha h3) hk).narrow hAA
  · exact (va_Z.kept (va_Z.moved ha h4) hk).narrow hAA
  · exact (va_Z.kept (va_Z.moved ha h5) hk).narrow hAA
  · exact (va_Zq.kept (va_Zq.moved ha h9) hk).narrow hAA
  · exact (va_Zq.kept (va_Zq.moved ha h10) hk).narrow hAA
  · intro c t hc ht
    rw [ha.findClass] at hc
    rw [ha.findClass, ha.findClass] at ht
    rw [ha.assignable]
    exact h11 c t hc ht
theorem hz_EC (ou : Nat → Nat) (z : Nat) : am_EC (hz_E ou z) :=
  ⟨fun A U U' hv hh h => hz_next A A U U' (by rw [hv]; exact State.WarmedH.refl U) (fun _ h => h) (fun q _ _ => by rw [hh]) h, fun A A' s U hW hAA hk _ h => hz_next A A' s U hW hAA hk h⟩
theorem hz_hE (ou : Nat → Nat) (z : Nat) : hg_E (hz_E ou z) ou := ⟨hz_EC ou z, fun _ _ h => ⟨h.1, h.2.1⟩, z, fun _ _ h => h.2.2.1⟩
theorem hz_hN (ou : Nat → Nat) (z : Nat) : hn_E (hz_E ou z) := fun _ _ h => h.2.2.2.2.2.2.2.2
theorem hz_hX (ou : Nat → Nat) (z : Nat) : hx_E (hz_E ou z) := by
  intro A s h args q hq w hw
  obtain ⟨-, -, -, h6, h7, h8, h9, h10, -⟩ := h
  have hs := hz_split q hq w hw
  rw [Bool.or_eq_true] at hs
  rcases hs with hs | hs
  · exact va_Nw.use hs (h6 w (List.mem_filter.mpr ⟨List.mem_flatten.mpr ⟨_, List.mem_map.mpr ⟨q, hq, rfl⟩, hw⟩, hs⟩))
  · have hm : w ∈ hz_sp := by simpa using hs
    simp only [hz_sp, List.mem_cons, List.not_mem_nil, or_false] at hm
    rcases hm with rfl | rfl | rfl | rfl
    · exact h7.use
    · exact h8.use
    · exact hz_isrefq h9
    · exact hz_isrefq h10
