/-! the machine from one state to another; a call that is caught; what is done with longs -/
noncomputable def am_kS (st1 st : am_S) : Option am_Z := @ite _ (st = st1) (Classical.propDecidable _) (some (none, [])) none
theorem am_kS_at (st1 : am_S) : am_kS st1 st1 = some (none, []) := by
  unfold am_kS
  rw [if_pos rfl]
noncomputable def am_sg (T : am_T) (cuts : List Nat) (st st1 : am_S) : Prop := am_go T cuts 400 st (am_kS st1) = some (none, [])
theorem am_sg_of {T : am_T} {cuts : List Nat} {st st1 : am_S} (h : ∀ kt : am_S → Option am_Z, kt st1 = some (none, []) → am_go T cuts 400 st kt = some (none, [])) : am_sg T cuts st st1 := h _ (am_kS_at st1)
section AMSG
variable {p : Program} {l : Launch} {e : Env} {R : Room} {s : State} {m : MethodId} {args : Array Value} {below : List Frame} {meth : Method} {c : Code} {Q : State → Prop} {cc : ByteArray} {D : va_G} {cl : List vw_C} {tys : List (ClassId × FieldType)} {A : Nat → Prop} {Ts : List Jvm.Cond} {own : String} {nL nt : Nat} {ou : Nat → Nat} {ca : Nat → ClassId}
theorem am_fic_no {ty : FieldType} {v v2 : am_V} {w : List am_C} (h : am_fic ty v (some (some v2, w)) = some (none, [])) : False := by
  unfold am_fic am_chk at h
  split at h
  · split at h
    · cases h
    · cases h
  · split at h
    · cases h
    · cases h
  · have h2 := (am_bt h).2
    cases h2
theorem am_ret_nz {T : am_T} {i : Instr} {len k j : Nat} {S : List am_V} {w : List am_C} {ty : FieldType} (hrt : am_rt T = some ty) (hr : am_ret T i len S w k j = some (none, [])) : False := by
  unfold am_ret at hr
  split at hr
  · have h2 := (am_bt hr).2
    rw [hrt] at h2
    cases h2
  · have h2 := (am_bt hr).2
    rw [hrt] at h2
    rcases S with _ | ⟨v | v, _ | ⟨u, S⟩⟩
    · have h3 : (none : Option am_Z) = some (none, []) := h2
      cases h3
    · exact am_fic_no h2
    · have h3 : (none : Option am_Z) = some (none, []) := h2
      cases h3
    · have h3 : (none : Option am_Z) = some (none, []) := h2
      cases h3
    · have h3 : (none : Option am_Z) = some (none, []) := h2
      cases h3
  · have h2 := (am_bt hr).2
    rw [hrt] at h2
    rcases S with _ | ⟨v | v, _ | ⟨u, S⟩⟩
    · have h3 : (none : Option am_Z) = some (none, []) := h2
      cases h3
    · have h3 : (none : Option am_Z) = some (none, []) := h2
      cases h3
    · have h3 : (none : Option am_Z) = some (none, []) := h2
      cases h3
    · exact am_fic_no h2
    · have h3 : (none : Option am_Z) = some (none, []) := h2
      cases h3
  · cases hr
theorem am_sg_ok {T : am_T} {cuts : List Nat} {st st1 : am_S} {ad0 : Nat → Nat} {ty : FieldType} (X : am_X p s m args c cc own Ts D cl tys A nL ca nt) (Y : am_TK p l e R s m args below meth c cc own Ts D cl A ou ca nL nt T) (hrt : am_rt T = some ty) (h : am_sg T cuts st st1)
    (K : ∀ ad' : Nat → Nat, (∀ i, i < am_n0 T → ad' i = ad0 i) → am_W p l e R s m args below meth c Q D cl A ou ca nL ad' st1) (ad : Nat → Nat) (had : ∀ i, i < am_n0 T → ad i = ad0 i) : am_W p l e R s m args below meth c Q D cl A ou ca nL ad st := by
  refine am_go_ok (z := (none, [])) (ad0 := ad0) X Y (fun i len pc L S w k j hd hr => (am_ret_nz hrt hr).elim) (fun st' hk ad' had' => ?_) 400 st h ad had
  unfold am_kS at hk
  by_cases he : st' = st1
  · rw [he]
    exact K ad' had'
  · rw [if_neg he] at hk
    cases hk
theorem am_o_last {pc k j : Nat} {ad : Nat → Nat} {L : List (Option am_V)} {S : List am_V} {w : List am_C} {x i : Int32} {q n : Nat} {f : Nat → Int32} (X : am_X p s m args c cc own Ts D cl tys A nL ca nt) (hnt : 4 < nt) (hd : decode cc pc = .ok (.i2l, 1)) (hd1 : decode cc (pc + 1) = .ok (.lastore, 1)) (hw : w[q]? = some (.inl (4, n, f))) (hi : am_inb i n = true)
    (K : am_W p l e R s m args below meth c Q D cl A ou ca nL ad (pc + 1 + 1, L, S, w.set q (.inl (4, n, upd f i.toNatClampNeg x)), k, j)) : am_W p l e R s m args below meth c Q D cl A ou ca nL ad (pc, L, .inl x :: .inl i :: .inr (.inl q) :: S, w, k, j) := by
  intro H locs ls hP hD hS hl
  refine lv_i2l X.1 X.2.1 hd rfl ?_
  refine va_last X.1 X.2.1 X.2.2.2.2.2.1 hP hD hS q 4 (am_w_get hw) (X.2.2.2.2.2.2.2.1 4 hnt) (am_inb_ok hi) hd1 (fun H1 locs1 hP1 hD1 hS1 => ?_)
  have e : (ad q, am_e ad ou ca (.inl (4, n, upd f i.toNatClampNeg x))) = (ad q, (.inl (ca 4, n, .inr (.inl (vp_updL (fun i => (f i).toInt64) i.toNatClampNeg x.toInt64))) : va_E)) := by
    have : (fun z => (upd f i.toNatClampNeg x z).toInt64) = vp_updL (fun i => (f i).toInt64) i.toNatClampNeg x.toInt64 := by
      funext z
      unfold upd vp_updL
      split <;> simp_all
    show (ad q, (.inl (ca 4, n, .inr (.inl (fun z => (upd f i.toNatClampNeg x z).toInt64))) : va_E)) = _
    rw [this]
  exact K H1 locs1 ls (by dsimp only; rw [am_w_set, e]; exact hP1) (by dsimp only; rw [am_w_set, e]; exact hD1) hS1 hl
theorem am_o_lcm {pc k j b : Nat} {ad : Nat → Nat} {L : List (Option am_V)} {S : List am_V} {w : List am_C} {x i : Int32} {q n : Nat} {f : Nat → Int32} (X : am_X p s m args c cc own Ts D cl tys A nL ca nt) (hnt : 4 < nt) (hd : decode cc pc = .ok (.laload, 1)) (hd1 : decode cc (pc + 1) = .ok (.iload b, 2)) (hd2 : decode cc (pc + 1 + 2) = .ok (.i2l, 1)) (hd3 : decode cc (pc + 1 + 2 + 1) = .ok (.lcmp, 1)) (hw : w[q]? = some (.inl (4, n, f))) (hi : am_inb i n = true) (hb : L[b]? = some (some (.inl x))) (hx : f i.toNatClampNeg = x)
    (K : am_W p l e R s m args below meth c Q D cl A ou ca nL ad (pc + 1 + 2 + 1 + 1, L, .inl 0 :: S, w, k, j)) : am_W p l e R s m args below meth c Q D cl A ou ca nL ad (pc, L, .inl i :: .inr (.inl q) :: S, w, k, j) := by
  intro H locs ls hP hD hS hl
  refine va_lald X.1 X.2.1 X.2.2.2.2.2.1 hP q 4 (am_w_get hw) (X.2.2.2.2.2.2.2.1 4 hnt) (am_inb_ok hi) hd ?_
  refine lv_iload X.1 X.2.1 hd1 (am_l_at hl hb) ?_
  refine lv_i2l X.1 X.2.1 hd2 rfl ?_
  refine W.lcmp X.1 X.2.1 hd3 ?_
  have : lg_cmp (f i.toNatClampNeg).toInt64 x.toInt64 = 0 := by
    rw [hx]
    simp [lg_cmp]
  rw [this]
  exact K H locs ls hP hD hS hl
end AMSG
