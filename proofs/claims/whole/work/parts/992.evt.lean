/-! what the machine does up to a throw, the JVM does -/
section AMEVT
variable {p : Program} {l : Launch} {e : Env} {R : Room} {s : State} {m : MethodId} {args : Array Value} {below : List Frame} {meth : Method} {c : Code} {Q : State → Prop} {cc : ByteArray} {D : va_G} {cl : List vw_C} {tys : List (ClassId × FieldType)} {A : Nat → Prop} {Ts : List Jvm.Cond} {own : String} {nL nt : Nat} {ou : Nat → Nat} {ca : Nat → ClassId}
theorem am_ret_no {T : am_T} {i : Instr} {len k j : Nat} {S : List am_V} {w w' : List am_C} (hrt : am_rt T = some .int) (hr : am_ret T i len S w k j = some (none, w')) : False := by
  unfold am_ret at hr
  split at hr
  · have h2 := (am_bt hr).2
    rw [hrt] at h2
    have h3 : (none : Option am_Z) = some (none, w') := h2
    cases h3
  · have h2 := (am_bt hr).2
    rw [hrt] at h2
    rcases S with _ | ⟨v | v, _ | ⟨u, S⟩⟩
    · have h3 : (none : Option am_Z) = some (none, w') := h2
      cases h3
    · have h3 : (some (some (.inl v), w) : Option am_Z) = some (none, w') := h2
      cases h3
    · have h3 : (none : Option am_Z) = some (none, w') := h2
      cases h3
    · have h3 : (none : Option am_Z) = some (none, w') := h2
      cases h3
    · have h3 : (none : Option am_Z) = some (none, w') := h2
      cases h3
  · have h2 := (am_bt hr).2
    rw [hrt] at h2
    rcases S with _ | ⟨v | v, _ | ⟨u, S⟩⟩
    · have h3 : (none : Option am_Z) = some (none, w') := h2
      cases h3
    · have h3 : (none : Option am_Z) = some (none, w') := h2
      cases h3
    · have h3 : (none : Option am_Z) = some (none, w') := h2
      cases h3
    · have h3 : (none : Option am_Z) = some (none, w') := h2
      cases h3
    · have h3 : (none : Option am_Z) = some (none, w') := h2
      cases h3
  · cases hr
theorem am_evT_ok {tpc : Nat} {w' : List am_C} {T : am_T} {ad0 : Nat → Nat} (X : am_X p s m args c cc own Ts D cl tys A nL ca nt) (Y : am_TK p l e R s m args below meth c cc own Ts D cl A ou ca nL nt T) (hrt : am_rt T = some .int)
    (K : ∀ (L : List (Option am_V)) (ad' : Nat → Nat), (∀ i, i < am_n0 T → ad' i = ad0 i) → am_W p l e R s m args below meth c Q D cl A ou ca nL ad' (tpc, L, [], w', 0, 0)) (st : am_S) (h : am_evT T tpc st = some (none, w')) (ad : Nat → Nat) (had : ∀ i, i < am_n0 T → ad i = ad0 i) : am_W p l e R s m args below meth c Q D cl A ou ca nL ad st := by
  refine am_go_ok (z := (none, w')) (ad0 := ad0) X Y ?_ ?_ 400 st h ad had
  · intro i len pc L S w k j hd hr
    exact (am_ret_no hrt hr).elim
  · rintro ⟨pc, L, S, w, k, j⟩ hk ad' had'
    rcases S with _ | ⟨v, S⟩
    · have h1 := am_bt (show (bif pc == tpc && (k == 0 && j == 0) then some ((none : Option am_V), w) else none) = some (none, w') from hk)
      obtain ⟨h2, h3⟩ := h1
      simp only [Bool.and_eq_true, beq_iff_eq] at h2
      obtain ⟨rfl, rfl, rfl⟩ := h2
      cases h3
      exact K L ad' had'
    · cases hk
end AMEVT
