/-! the caught call on the machine; contracts of methods with handlers -/
section AMCAT
variable {p : Program} {l : Launch} {e : Env} {R : Room} {s : State} {m : MethodId} {args : Array Value} {below : List Frame} {meth : Method} {c : Code} {Q : State → Prop} {cc : ByteArray} {D : va_G} {cl : List vw_C} {tys : List (ClassId × FieldType)} {A : Nat → Prop} {Ts : List Jvm.Cond} {own : String} {nL nt : Nat} {ou : Nat → Nat} {ca : Nat → ClassId}
theorem am_o_cat {pc n hpc k j n0 : Nat} {ad : Nat → Nat} {L : List (Option am_V)} {a rest : List am_V} {w w1 : List am_C} {sel : List Nat} {pre : List am_V → List am_C → Prop} {f : am_MT} {x : Fin 4} (X : am_X p s m args c cc own Ts D cl tys A nL ca nt) (hCT : am_CT p l e R s m args below meth c D cl A ou ca nL pc n hpc pre f) (han : a.length = n) (hsok : am_sow w sel = true) (s3 : a.all (am_hin sel) = true) (hp : pre (a.map (am_dn sel)) (am_sub w sel)) (hr : f (a.map (am_dn sel)) (am_sub w sel) = w1) (hwl : am_wl w1 sel.length = true) (h4 : rest.length ≤ 8) (hk : k + 1 ≤ R.cells) (hj : j + 6 ≤ R.slots)
    (hda : decode cc hpc = .ok (.astore_n x, 1)) (hxn : x.val < nL) (hxL : ∀ u, L[x.val]? ≠ some (some u))
    (K : ∀ ad' : Nat → Nat, (∀ i, i < n0 → ad' i = ad i) → am_W p l e R s m args below meth c Q D cl A ou ca nL ad' (hpc + 1, L, [], am_mix w sel w1, k + 1, j + 6)) : am_W p l e R s m args below meth c Q D cl A ou ca nL ad (pc, L, a.reverse ++ rest, w, k, j) := by
  simp only [am_sow, Bool.and_eq_true] at hsok
  obtain ⟨s1, s2, s4⟩ := hsok
  have hwl0 := hwl
  simp only [am_wl, Bool.and_eq_true] at hwl
  have h1 : w1.length = sel.length := by simpa using hwl.1
  have hsel : ∀ q ∈ sel, q < w.length := fun q hq => Nat.le_of_ble_eq_true (List.all_eq_true.mp s1 q hq)
  intro H locs ls hP hD hS hl
  have hcell : ∀ q ∈ sel, ∀ x, w[q]? = some x → am_hinC sel x = true := fun q hq x hx => by
    have g := List.all_eq_true.mp s4 q hq
    rw [hx] at g
    exact g
  have hgetC : ∀ (i : Nat) (q : Nat × va_E), (am_w (fun i => ad (sel.getD i 0)) ou ca (am_sub w sel))[i]? = some q → ∃ b, sel[i]? = some b ∧ (am_w ad ou ca w)[b]? = some q := by
    intro i q hq
    obtain ⟨y, hy, rfl⟩ := am_w_inv hq
    obtain ⟨b, x, e1, e2, rfl⟩ := am_sub_get hsel hy
    refine ⟨b, e1, ?_⟩
    rw [am_w_get e2, am_e_dn (hcell b (List.mem_of_getElem? e1) x e2), List.getD_eq_getElem?_getD, e1]
    rfl
  have hPc : va_P D cl (am_w (fun i => ad (sel.getD i 0)) ou ca (am_sub w sel)) H := fun i q hq => by
    obtain ⟨b, -, e2⟩ := hgetC i q hq
    exact hP b q e2
  have hDc : va_D A (am_w (fun i => ad (sel.getD i 0)) ou ca (am_sub w sel)) := by
    refine ⟨fun i i' q q' hq hq' he => ?_, fun i q hq => ?_⟩
    · obtain ⟨b, e1, e2⟩ := hgetC i q hq
      obtain ⟨b', e1', e2'⟩ := hgetC i' q' hq'
      have hbb : b = b' := hD.1 b b' q q' e2 e2' he
      subst hbb
      exact va_nd_inj sel s2 i i' b e1 e1'
    · obtain ⟨b, -, e2⟩ := hgetC i q hq
      exact hD.2 b q e2
  have hfree : ∀ q, va_A (am_w (fun i => ad (sel.getD i 0)) ou ca (am_sub w sel)) H.size q → A q := by
    intro q hq
    rcases hq with ⟨i, y, hq⟩ | hq
    · exact hDc.2 i (q, y) hq
    · exact X.2.2.2.2.2.2.1 q (Nat.le_trans hS.1 hq)
  have hst : (a.reverse ++ rest).map (am_v ad ou) = ((a.map (am_dn sel)).map (am_v (fun i => ad (sel.getD i 0)) ou)).reverse ++ rest.map (am_v ad ou) := by
    have g1 : (a.map (am_dn sel)).map (am_v (fun i => ad (sel.getD i 0)) ou) = a.map (am_v ad ou) := by
      rw [List.map_map]
      exact List.map_congr_left (fun v hv => am_v_dn (List.all_eq_true.mp s3 v hv))
    rw [g1, List.map_append, List.map_reverse]
  dsimp only
  rw [hst]
  refine hCT Q (a.map (am_dn sel)) (am_sub w sel) (fun i => ad (sel.getD i 0)) H locs ls k j (rest.map (am_v ad ou)) (by rw [List.length_map]; exact han) hp hPc hDc hS hl.1 (by rw [am_sum1]; exact h4) hk hj ?_
  intro xe H1 locs1 ad1 hag hP1 hD1 hz hkp hS2
  rw [hr] at hP1 hD1
  rw [am_sub_len hsel] at hag
  obtain ⟨ad', a0, aL, aT, aR, aC, aS, aW, aLs⟩ := am_after (n0 := n0) (n := w.length) (ad := ad) (ad1 := ad1) (ou := ou) (sel := sel) (L := L) (S := rest) (w := w) (w1 := w1) (r := none) hsel rfl hag (by
    rw [hwl.1, hwl.2]
    rfl)
  have hget : ∀ (i : Nat) (q : Nat × va_E), (am_w ad' ou ca (am_mix w sel w1))[i]? = some q → ((am_w ad ou ca w)[i]? = some q ∧ sel.contains i = false) ∨ ∃ b, (am_w ad1 ou ca w1)[b]? = some q ∧ i = am_gt sel w.length b := by
    intro i q hq
    obtain ⟨y, hy, rfl⟩ := am_w_inv hq
    rcases am_mix_get (Nat.le_of_eq h1.symm) hy with ⟨x, x1, x2, rfl⟩ | ⟨b, x, x1, rfl, rfl⟩
    · refine Or.inl ⟨?_, x2⟩
      rw [am_w_get x1, aW _ ca (List.mem_of_getElem? x1), aL i (List.getElem?_eq_some_iff.mp x1).1]
    · refine Or.inr ⟨b, ?_, rfl⟩
      rw [am_w_get x1, aC _ ca (List.mem_of_getElem? x1), aT b (List.getElem?_eq_some_iff.mp x1).1]
  have hapart : ∀ (i : Nat) (q : Nat × va_E), (am_w ad ou ca w)[i]? = some q → sel.contains i = false → q.1 < H.size ∧ ¬ va_A (am_w (fun i => ad (sel.getD i 0)) ou ca (am_sub w sel)) H.size q.1 := by
    intro i q hq hc
    have hlt := (hP i q hq).lt
    refine ⟨hlt, fun hA => ?_⟩
    rcases hA with ⟨b, y, hb⟩ | hA
    · obtain ⟨b', e1', e2'⟩ := hgetC b (q.1, y) hb
      have hib := hD.1 i b' q (q.1, y) hq e2' rfl
      subst hib
      have hm : i ∈ sel := List.mem_of_getElem? e1'
      rw [List.contains_iff_mem.mpr hm] at hc
      cases hc
    · omega
  have hP2 : va_P D cl (am_w ad' ou ca (am_mix w sel w1)) H1 := by
    intro i q hq
    rcases hget i q hq with ⟨x1, x2⟩ | ⟨b, x1, -⟩
    · obtain ⟨y1, y2⟩ := hapart i q x1 x2
      exact (hP i q x1).kept (hkp q.1 y1 y2)
    · exact hP1 b q x1
  have hD2 : va_D A (am_w ad' ou ca (am_mix w sel w1)) := by
    refine ⟨fun i i' q q' hq hq' he => ?_, fun i q hq => ?_⟩
    · rcases hget i q hq with ⟨x1, x2⟩ | ⟨b, x1, rfl⟩
      · rcases hget i' q' hq' with ⟨x1', x2'⟩ | ⟨b', x1', rfl⟩
        · exact hD.1 i i' q q' x1 x1' he
        · exact absurd (hD1.2 b' q' x1') (by rw [← he]; exact (hapart i q x1 x2).2)
      · rcases hget i' q' hq' with ⟨x1', x2'⟩ | ⟨b', x1', rfl⟩
        · exact absurd (hD1.2 b q x1) (by rw [he]; exact (hapart i' q' x1' x2').2)
        · rw [hD1.1 b b' q q' x1 x1' he]
    · rcases hget i q hq with ⟨x1, -⟩ | ⟨b, x1, -⟩
      · exact hD.2 i q x1
      · exact hfree _ (hD1.2 b q x1)
  refine lv_astore_n X.1 X.2.1 hda rfl (aLs ls nL hl) hxn rfl (fun ls' hl' => ?_)
  refine K ad' a0 H1 locs1 ls' hP2 hD2 hS2 ⟨hl'.1, hl'.2.1, ?_⟩
  rintro ⟨i, v⟩ hq
  obtain ⟨u, g1, g2⟩ := am_l_mem.mp hq
  have hne : ¬ i = x.val := fun h => hxL u (by rw [← h]; exact g1)
  refine hl'.2.2 (i, v) (List.mem_cons_of_mem _ (List.mem_filter.mpr ⟨hq, ?_⟩))
  rw [← g2]
  simp [am_cat, hne]
end AMCAT
theorem am_metW {l : Launch} {E : (Nat → Prop) → State → Prop} {D : va_G} {cl : List vw_C} {tys : List (ClassId × FieldType)} {ou : Nat → Nat} {ca : Nat → ClassId} {y : MethodName} {ws ws' : List Jvm.Cond} {fr lo : Nat} {pre : List am_V → List am_C → Prop} {f : am_M} {cc : ByteArray} {nL nt : Nat} {ret : Option FieldType} {hh : List (Nat × Nat × Nat × Nat)}
    (hy : plainName y.cls = true) (hw : ws = Jvm.Cond.codeWith y cc nL ret hh :: ws') (hty : ∀ t, t < nt → tys[t]? = some (ca t, am_ty t)) (harr : ∀ t, t < nt → Jvm.Cond.arrayClass (am_ty t) ∈ ws) (hnt : nt ≤ 5) (hargs : ∀ a w, pre a w → a.length ≤ nL)
    (hb : ∀ (a : List am_V) (w : List am_C), pre a w → ∀ (ad : Nat → Nat) (p : Program) (e : Env) (R : Room) (s : State) (m : MethodId) (args : Array Value) (below : List Frame) (meth : Method) (c : Code), l.admits e → R = { frames := fr, cells := (f a w).2.2.1, slots := (f a w).2.2.2, locals := lo } → am_X p s m args c cc y.cls ws D cl tys (va_A (am_w ad ou ca w) s.heap.size) nL ca nt → E (va_A (am_w ad ou ca w) s.heap.size) s → meth.name = y.name → meth.sig.returnType = ret → meth.locks = false → c.exceptionTable.toList.map (fun h => (h.startPc, h.endPc, h.handlerPc, h.catchType)) = hh →
      am_W p l e R s m args below meth c (MQ below (am_Qc D cl ou ca w.length ad ((f a w).1, (f a w).2.1) (va_A (am_w ad ou ca w) s.heap.size)) args s (f a w).2.2.1 (f a w).2.2.2 (va_A (am_w ad ou ca w) s.heap.size)) D cl (va_A (am_w ad ou ca w) s.heap.size) ou ca nL ad (0, am_L0 a nL, [], w, 0, 0)) : am_Met l E D cl tys ou ca y ws fr lo pre f := by
  intro ad sz a w hp
  refine va_MetW (cc := cc) (maxL := nL) (ret := ret) (hh := hh) hy hw ?_
  intro p e s m args below meth c s₁ B0 hml hv
  obtain ⟨rfl, hsz, hP, hK, hD0, hE⟩ := hv
  subst hsz
  have hts := atoms_spec (ws := ws) B0.pre
  have hown : s.vm.findClass y.cls = some m.cls := findClass_of_methodNamed B0.named
  have hnm : meth.name = y.name := (name_of_methodNamed B0.named B0.method).1
  have hhd : c.exceptionTable.toList.map (fun h => (h.startPc, h.endPc, h.handlerPc, h.catchType)) = hh := by
    obtain ⟨m9, meth9, c9, hn9, h1, h2, -, -, h3, -⟩ := Cond.codeWith_spec (hts _ (by rw [hw]; exact List.mem_cons_self))
    cases B0.named.symm.trans hn9
    cases B0.method.symm.trans h1
    cases (Stand.of_body B0).code.symm.trans h2
    exact h3
  have hD := hD0.self (sz := s.heap.size)
  have hS : va_S (va_A (am_w ad ou ca w) s.heap.size) s.heap s.heap [] := va_S.rf
  have hl := lv_entry (a.map (am_v ad ou)) (n := nL) (by rw [am_lg]; exact hargs a w hp)
  rw [lg_entry_eq]
  generalize (lg_sl (a.map (am_v ad ou)) ++ List.replicate (nL - (lg_sl (a.map (am_v ad ou))).length) Slot.unset).toArray = ls at hl ⊢
  have X : am_X p s m (a.map (am_v ad ou)).toArray c cc y.cls ws D cl tys (va_A (am_w ad ou ca w) s.heap.size) nL ca nt := ⟨B0.exec, B0.bytes, hml, hown, hts, hK, fun q h => Or.inr h, hty, fun t ht => hts _ (harr t ht), hnt⟩
  exact hb a w hp ad p e _ s m _ below meth c B0.admits rfl X hE hnm B0.returns B0.notSynchronized hhd s.heap [] ls hP hD hS (am_L0_ok hl)
