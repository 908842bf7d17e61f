/-! methods of the JDK -/
def hyJ_max : MethodName := ⟨"java/lang/Math", "max", "(II)I"⟩
noncomputable def fnJ_max (p0 : Int32) (p1 : Int32) : Int32 := Classical.choose (⟨_, rfl⟩ : ∃ z : Int32, z = (if p0 < p1 then p1 else p0))
theorem fqJ_max (p0 : Int32) (p1 : Int32) : fnJ_max p0 p1 = (if p0 < p1 then p1 else p0) := Classical.choose_spec (⟨_, rfl⟩ : ∃ z : Int32, z = (if p0 < p1 then p1 else p0))
def wpJ_max (p0 : Int32) (p1 : Int32) : Prop := True
abbrev prJ_max : List am_V → List am_C → Prop := fun a w => ∃ (p0 : Int32) (p1 : Int32), a = [.inl p0, .inl p1] ∧ w = [] ∧ wpJ_max p0 p1
noncomputable def fmJ_max : am_M := fun a _ => (some (.inl (fnJ_max (am_i (am_an a 0)) (am_i (am_an a 1)))), [], 0, 0)
theorem feJ_max (p0 : Int32) (p1 : Int32) : fmJ_max [.inl p0, .inl p1] [] = (some (.inl (fnJ_max p0 p1)), [], 0, 0) := rfl
theorem kmJ_max {l : Launch} {E : (Nat → Prop) → State → Prop} {D : va_G} {ou : Nat → Nat} {ca : Nat → ClassId} (hE : hg_E E ou) : hg_Met l E D ou ca hyJ_max prog_18_method_65_code 2 (some .int) 0 prJ_max fmJ_max := by
  sorry
def hyJ_length : MethodName := ⟨"java/lang/String", "length", "()I"⟩
noncomputable def fnJ_length (k : Nat) : Int32 := Classical.choose (⟨_, rfl⟩ : ∃ z : Int32, z = (Int32.ofNat (hg_ln.getD k 0)))
theorem fqJ_length (k : Nat) : fnJ_length k = (Int32.ofNat (hg_ln.getD k 0)) := Classical.choose_spec (⟨_, rfl⟩ : ∃ z : Int32, z = (Int32.ofNat (hg_ln.getD k 0)))
def wpJ_length (k : Nat) : Prop := k < 37
abbrev prJ_length : List am_V → List am_C → Prop := fun a w => ∃ (k : Nat), a = [.inr (.inr (k + 1))] ∧ w = [] ∧ wpJ_length k
noncomputable def fmJ_length : am_M := fun a _ => (some (.inl (fnJ_length (am_n (am_an a 0)))), [], 0, 0)
theorem feJ_length (k : Nat) : fmJ_length [.inr (.inr (k + 1))] [] = (some (.inl (fnJ_length k)), [], 0, 0) := rfl
theorem paJ_length : ∀ a w, prJ_length a w → ∃ k a', a = .inr (.inr (k + 1)) :: a' ∧ k < 37 := by
  rintro a w ⟨k, rfl, rfl, hp⟩
  exact ⟨k, _, rfl, hp⟩
theorem kmJ_length {l : Launch} {E : (Nat → Prop) → State → Prop} {D : va_G} {ou : Nat → Nat} {ca : Nat → ClassId} (hE : hg_E E ou) : hg_Met l E D ou ca hyJ_length prog_20_method_54_code 1 (some .int) 1 prJ_length fmJ_length := by
  sorry
def hyJ_charAt : MethodName := ⟨"java/lang/String", "charAt", "(I)C"⟩
noncomputable def fnJ_charAt (k : Nat) (p0 : Int32) : Int32 := Classical.choose (⟨_, rfl⟩ : ∃ z : Int32, z = (((((hg_bs.getD k []).getD p0.toNatClampNeg 0) &&& 255).toUInt32 % 65536).toInt32))
theorem fqJ_charAt (k : Nat) (p0 : Int32) : fnJ_charAt k p0 = (((((hg_bs.getD k []).getD p0.toNatClampNeg 0) &&& 255).toUInt32 % 65536).toInt32) := Classical.choose_spec (⟨_, rfl⟩ : ∃ z : Int32, z = (((((hg_bs.getD k []).getD p0.toNatClampNeg 0) &&& 255).toUInt32 % 65536).toInt32))
def wpJ_charAt (k : Nat) (p0 : Int32) : Prop := k < 37 ∧ am_inb p0 (hg_ln.getD k 0) = true
abbrev prJ_charAt : List am_V → List am_C → Prop := fun a w => ∃ (k : Nat) (p0 : Int32), a = [.inr (.inr (k + 1)), .inl p0] ∧ w = [] ∧ wpJ_charAt k p0
noncomputable def fmJ_charAt : am_M := fun a _ => (some (.inl (fnJ_charAt (am_n (am_an a 0)) (am_i (am_an a 1)))), [], 0, 0)
theorem feJ_charAt (k : Nat) (p0 : Int32) : fmJ_charAt [.inr (.inr (k + 1)), .inl p0] [] = (some (.inl (fnJ_charAt k p0)), [], 0, 0) := rfl
theorem paJ_charAt : ∀ a w, prJ_charAt a w → ∃ k a', a = .inr (.inr (k + 1)) :: a' ∧ k < 37 := by
  rintro a w ⟨k, p0, rfl, rfl, hp⟩
  exact ⟨k, _, rfl, hp.1⟩
theorem kmJ_charAt {l : Launch} {E : (Nat → Prop) → State → Prop} {D : va_G} {ou : Nat → Nat} {ca : Nat → ClassId} (hE : hg_E E ou) : hg_Met l E D ou ca hyJ_charAt prog_20_method_56_code 2 (some .char) 3 prJ_charAt fmJ_charAt := by
  sorry
/-- the first place of c, from place k on -/
def hg_ixF (c : Int32) : List Int32 → Nat → Int32
  | [], _ => -1
  | b :: r, k => if b = c then Int32.ofNat k else hg_ixF c r (k + 1)
def hyJ_indexOf : MethodName := ⟨"java/lang/String", "indexOf", "(I)I"⟩
noncomputable def fnJ_indexOf (k : Nat) (p0 : Int32) : Int32 := Classical.choose (⟨_, rfl⟩ : ∃ z : Int32, z = (hg_ixF p0 (hg_bs.getD k []) 0))
theorem fqJ_indexOf (k : Nat) (p0 : Int32) : fnJ_indexOf k p0 = (hg_ixF p0 (hg_bs.getD k []) 0) := Classical.choose_spec (⟨_, rfl⟩ : ∃ z : Int32, z = (hg_ixF p0 (hg_bs.getD k []) 0))
def wpJ_indexOf (k : Nat) (p0 : Int32) : Prop := k < 37
abbrev prJ_indexOf : List am_V → List am_C → Prop := fun a w => ∃ (k : Nat) (p0 : Int32), a = [.inr (.inr (k + 1)), .inl p0] ∧ w = [] ∧ wpJ_indexOf k p0
noncomputable def fmJ_indexOf : am_M := fun a _ => (some (.inl (fnJ_indexOf (am_n (am_an a 0)) (am_i (am_an a 1)))), [], 0, 0)
theorem feJ_indexOf (k : Nat) (p0 : Int32) : fmJ_indexOf [.inr (.inr (k + 1)), .inl p0] [] = (some (.inl (fnJ_indexOf k p0)), [], 0, 0) := rfl
theorem paJ_indexOf : ∀ a w, prJ_indexOf a w → ∃ k a', a = .inr (.inr (k + 1)) :: a' ∧ k < 37 := by
  rintro a w ⟨k, p0, rfl, rfl, hp⟩
  exact ⟨k, _, rfl, hp⟩
theorem kmJ_indexOf {l : Launch} {E : (Nat → Prop) → State → Prop} {D : va_G} {ou : Nat → Nat} {ca : Nat → ClassId} (hE : hg_E E ou) : hg_Met l E D ou ca hyJ_indexOf prog_20_method_79_code 2 (some .int) 3 prJ_indexOf fmJ_indexOf := by
  sorry
