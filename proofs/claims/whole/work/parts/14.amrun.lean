/-! THE MACHINE IS SOUND -/
def am_LK (s : State) (own : String) (args : Array Value) (ou : Nat → Nat) (x : Nat) (v : am_V) : Prop := (∃ n, v = .inl n ∧ (Jvm.Cond.constant own x n).before args s = true) ∨ ∃ k tx, v = .inr (.inr (k + 1)) ∧ vk_R own x tx (ou k) s
/-- the tables of a method say what is so -/
def am_TK (p : Program) (l : Launch) (e : Env) (R : Room) (s : State) (m : MethodId) (args : Array Value) (below : List Frame) (meth : Method) (c : Code) (cc : ByteArray) (own : String) (Ts : List Jvm.Cond) (D : va_G) (cl : List vw_C) (A : Nat → Prop) (ou : Nat → Nat) (ca : Nat → ClassId) (nL nt : Nat) (T : am_T) : Prop :=
  (∀ q ∈ T.1, decode cc q.1 = .ok q.2) ∧ (∀ index ci fi mode, T.2.1 index = some (ci, fi, mode) → am_FK s args meth own Ts cl T.2.2.1 index ci fi mode) ∧ (∀ index ci fs, T.2.2.2.1 index = some (ci, fs) → am_NK s args own Ts cl index ci fs) ∧ (∀ x v, T.2.2.2.2.1 x = some v → am_LK s own args ou x v) ∧
  (∀ pc sel n pre f, T.2.2.2.2.2.1 pc = some (sel, n, pre, f) → am_CK p l e R s m args below meth c D cl A ou ca nL pc n pre f) ∧ (∀ o t n f, T.2.2.2.2.2.2.1 o = some (t, n, f) → va_T (am_ty t) (ou o) n (fun j => .int (f j)) A s s.heap) ∧ am_nt T = nt ∧ am_nl T = nL ∧ am_mc T ≤ R.cells ∧ am_ms T ≤ R.slots
section AMS
variable {p : Program} {l : Launch} {e : Env} {R : Room} {s : State} {m : MethodId} {args : Array Value} {below : List Frame} {meth : Method} {c : Code} {Q : State → Prop} {cc : ByteArray} {D : va_G} {cl : List vw_C} {tys : List (ClassId × FieldType)} {A : Nat → Prop} {Ts : List Jvm.Cond} {own : String} {nL nt : Nat} {ou : Nat → Nat} {ca : Nat → ClassId}
theorem am_do_ok {i : Instr} {len pc k j : Nat} {ad : Nat → Nat} {kt : am_S → Option am_Z} {L : List (Option am_V)} {S : List am_V} {w : List am_C} {z : am_Z} {T : am_T} (X : am_X p s m args c cc own Ts D cl tys A nL ca nt) (Y : am_TK p l e R s m args below meth c cc own Ts D cl A ou ca nL nt T) (hd : decode cc pc = .ok (i, len)) (h : am_do T i len pc L S w k j kt = some z)
    (hret : am_ret T i len S w k j = some z → am_W p l e R s m args below meth c Q D cl A ou ca nL ad (pc, L, S, w, k, j)) (K : ∀ st' : am_S, kt st' = some z → ∀ ad' : Nat → Nat, (∀ i, i < am_n0 T → ad' i = ad i) → am_W p l e R s m args below meth c Q D cl A ou ca nL ad' st') : am_W p l e R s m args below meth c Q D cl A ou ca nL ad (pc, L, S, w, k, j) := by
  obtain ⟨y1, y2, y3, y4, y5, y6, y7, y8, y9, y10⟩ := Y
  have K1 : ∀ st' : am_S, kt st' = some z → am_W p l e R s m args below meth c Q D cl A ou ca nL ad st' := fun st' hk => K st' hk ad (fun _ _ => rfl)
  cases i with
  | iload_n x => exact am_o_iload_n X hd h K1
  | iload x => exact am_o_iload X hd h K1
  | aload_n x => exact am_o_aload_n X hd h K1
  | aload x => exact am_o_aload X hd h K1
  | istore_n x => exact am_o_istore_n X y8 hd h K1
  | istore x => exact am_o_istore X y8 hd h K1
  | astore_n x => exact am_o_astore_n X y8 hd h K1
  | astore x => exact am_o_astore X y8 hd h K1
  | iinc x n => exact am_o_iinc X y8 hd h K1
  | iconst n => exact am_o_iconst X hd h K1
  | bipush n => exact am_o_bipush X hd h K1
  | sipush n => exact am_o_sipush X hd h K1
  | aconst_null => exact am_o_null X hd h K1
  | iadd => exact am_o_iadd X hd h K1
  | isub => exact am_o_isub X hd h K1
  | imul => exact am_o_imul X hd h K1
  | iand => exact am_o_iand X hd h K1
  | ior => exact am_o_ior X hd h K1
  | ixor => exact am_o_ixor X hd h K1
  | ishl => exact am_o_ishl X hd h K1
  | ishr => exact am_o_ishr X hd h K1
  | iushr => exact am_o_iushr X hd h K1
  | idiv => exact am_o_idiv X hd h K1
  | irem => exact am_o_irem X hd h K1
  | ineg => exact am_o_ineg X hd h K1
  | i2c => exact am_o_i2c X hd h K1
  | i2b => exact am_o_i2b X hd h K1
  | ldc x => 
    dsimp only [am_do] at h
    cases hT : T.2.2.2.2.1 x with
    | none => rw [hT] at h; cases h
    | some v =>
      rw [hT] at h
      obtain ⟨rfl, hk⟩ := am_nx_inv h
      rcases y4 x v hT with ⟨n, rfl, hc⟩ | ⟨q, tx, rfl, hc⟩
      · exact fun H locs ls hP hD hS hl => lv_ldc X.1 X.2.1 X.2.2.2.1 hc hd (K1 _ hk H locs ls hP hD hS hl)
      · exact fun H locs ls hP hD hS hl => va_ldcS X.1 X.2.1 X.2.2.2.1 hc hd (K1 _ hk H locs ls hP hD hS hl)
  | dup => 
    dsimp only [am_do] at h
    split at h
    · obtain ⟨rfl, hk⟩ := am_nx_inv h
      exact fun H locs ls hP hD hS hl => lv_dup X.1 X.2.1 hd (am_cat _ _ _) (K1 _ hk H locs ls hP hD hS hl)
    · cases h
  | pop => 
    dsimp only [am_do] at h
    split at h
    · obtain ⟨rfl, hk⟩ := am_nx_inv h
      exact fun H locs ls hP hD hS hl => lv_pop X.1 X.2.1 hd (am_cat _ _ _) (K1 _ hk H locs ls hP hD hS hl)
    · cases h
  | dup2 => 
    dsimp only [am_do] at h
    split at h
    · obtain ⟨rfl, hk⟩ := am_nx_inv h
      exact fun H locs ls hP hD hS hl => lv_dup2_11 X.1 X.2.1 hd (am_cat _ _ _) (am_cat _ _ _) (K1 _ hk H locs ls hP hD hS hl)
    · cases h
  | dup_x1 => 
    dsimp only [am_do] at h
    split at h
    · obtain ⟨rfl, hk⟩ := am_nx_inv h
      exact fun H locs ls hP hD hS hl => lv_dup_x1 X.1 X.2.1 hd (am_cat _ _ _) (am_cat _ _ _) (K1 _ hk H locs ls hP hD hS hl)
    · cases h
  | dup_x2 => 
    dsimp only [am_do] at h
    split at h
    · obtain ⟨rfl, hk⟩ := am_nx_inv h
      exact fun H locs ls hP hD hS hl => lv_dup_x2 X.1 X.2.1 hd (am_cat _ _ _) (am_cat _ _ _) (am_cat _ _ _) (K1 _ hk H locs ls hP hD hS hl)
    · cases h
  | ifCond cd off => exact am_o_ifz X hd h K1
  | if_icmp cd off => exact am_o_icm X hd h K1
  | goto off => exact am_o_goto X hd h K1
  | tableswitch d lo hi offs => exact am_o_tsw X hd h K1
  | lookupswitch d ps => exact am_o_lsw X hd h K1
  | getfield x =>
    dsimp only [am_do] at h
    split at h
    · exact am_o_inv X (y5 pc) y9 y10 h K
    · exact am_o_gtf X y2 hd h K1
  | getstatic x => exact am_o_inv X (y5 pc) y9 y10 h K
  | putfield x => exact am_o_ptf X y2 hd h K1
  | iaload => exact am_o_arli X y7 y6 hd h K1
  | caload => exact am_o_arlc X y7 y6 hd h K1
  | baload => exact am_o_arlz X y7 y6 hd h K1
  | iastore => exact am_o_arsi X y7 hd h K1
  | castore => exact am_o_arsc X y7 hd h K1
  | bastore => exact am_o_arsz X y7 hd h K1
  | arraylength => exact am_o_aln X y7 y6 hd h K1
  | new x => exact am_o_new X y3 y9 y10 hd h K
  | newarray a => exact am_o_nwa X y7 y9 y10 hd h K
  | invokevirtual x => exact am_o_inv X (y5 pc) y9 y10 h K
  | invokestatic x => exact am_o_inv X (y5 pc) y9 y10 h K
  | invokespecial x => exact am_o_inv X (y5 pc) y9 y10 h K
  | _ => exact hret h
theorem am_go_ok {cuts : List Nat} {kt : am_S → Option am_Z} {z : am_Z} {T : am_T} {ad0 : Nat → Nat} (X : am_X p s m args c cc own Ts D cl tys A nL ca nt) (Y : am_TK p l e R s m args below meth c cc own Ts D cl A ou ca nL nt T)
    (hret : ∀ (i : Instr) (len pc : Nat) (L : List (Option am_V)) (S : List am_V) (w : List am_C) (k j : Nat), decode cc pc = .ok (i, len) → am_ret T i len S w k j = some z → ∀ ad : Nat → Nat, (∀ i, i < am_n0 T → ad i = ad0 i) → am_W p l e R s m args below meth c Q D cl A ou ca nL ad (pc, L, S, w, k, j)) 
    (K : ∀ st' : am_S, kt st' = some z → ∀ ad' : Nat → Nat, (∀ i, i < am_n0 T → ad' i = ad0 i) → am_W p l e R s m args below meth c Q D cl A ou ca nL ad' st') : ∀ (n : Nat) (st : am_S), am_go T cuts n st kt = some z → ∀ ad : Nat → Nat, (∀ i, i < am_n0 T → ad i = ad0 i) → am_W p l e R s m args below meth c Q D cl A ou ca nL ad st := by
  intro n
  induction n with
  | zero => intro st h; cases h
  | succ n ih =>
    intro st h ad had
    obtain ⟨pc, L, S, w, k, j⟩ := st
    unfold am_go at h
    dsimp only at h
    cases hT : am_at T.1 pc with
    | none => rw [hT] at h; cases h
    | some y =>
      obtain ⟨i, len⟩ := y
      rw [hT] at h
      have hd : decode cc pc = .ok (i, len) := Y.1 (pc, i, len) (am_at_mem hT)
      refine am_do_ok X Y hd h (fun hr => hret i len pc L S w k j hd hr ad had) (fun st' hk ad' ha => ?_)
      cases hc : cuts.contains st'.1 with
      | true =>
        rw [hc] at hk
        exact K st' hk ad' (fun i hi => (ha i hi).trans (had i hi))
      | false =>
        rw [hc] at hk
        exact ih st' hk ad' (fun i hi => (ha i hi).trans (had i hi))
theorem am_ev_ok {cuts : List Nat} {z : am_Z} {T : am_T} {ad0 : Nat → Nat} (X : am_X p s m args c cc own Ts D cl tys A nL ca nt) (Y : am_TK p l e R s m args below meth c cc own Ts D cl A ou ca nL nt T)
    (hret : ∀ (i : Instr) (len pc : Nat) (L : List (Option am_V)) (S : List am_V) (w : List am_C) (k j : Nat), decode cc pc = .ok (i, len) → am_ret T i len S w k j = some z → ∀ ad : Nat → Nat, (∀ i, i < am_n0 T → ad i = ad0 i) → am_W p l e R s m args below meth c Q D cl A ou ca nL ad (pc, L, S, w, k, j)) : ∀ (n : Nat) (st : am_S), am_ev T cuts n st = some z → ∀ ad : Nat → Nat, (∀ i, i < am_n0 T → ad i = ad0 i) → am_W p l e R s m args below meth c Q D cl A ou ca nL ad st := by
  intro n
  induction n with
  | zero => intro st h; cases h
  | succ n ih =>
    intro st h
    unfold am_ev at h
    exact am_go_ok X Y hret ih 400 st h
theorem am_ret_ok {i : Instr} {len pc k j : Nat} {ad ad0 : Nat → Nat} {L : List (Option am_V)} {S : List am_V} {w : List am_C} {z : am_Z} {T : am_T} (X : am_X p s m args c cc own Ts D cl tys A nL ca nt) (hr : meth.sig.returnType = am_rt T) (hlocks : meth.locks = false) (hd : decode cc pc = .ok (i, len)) (h : am_ret T i len S w k j = some z) (had : ∀ i, i < am_n0 T → ad i = ad0 i) : am_W p l e R s m args below meth c (MQ below (am_Qc D cl ou ca (am_n0 T) ad0 z A) args s (am_mc T) (am_ms T) A) D cl A ou ca nL ad (pc, L, S, w, k, j) := by
  intro H locs ls hP hD hS hl
  have hend : ∀ {x : Option am_Z}, (bif am_end T len k j then x else none) = some z → len = 1 ∧ k ≤ am_mc T ∧ j ≤ am_ms T ∧ x = some z := by
    intro x hq
    obtain ⟨h1, h2⟩ := am_bt hq
    simp only [am_end, Bool.and_eq_true] at h1
    exact ⟨by simpa using h1.1, Nat.le_of_ble_eq_true h1.2.1, Nat.le_of_ble_eq_true h1.2.2, h2⟩
  cases i with
  | return_ =>
    have hh := hend h
    clear h
    obtain ⟨rfl, hk, hj, h⟩ := hh
    cases ht : am_rt T with
    | some ty => rw [ht] at h; cases h
    | none =>
      rw [ht] at h hr
      cases S with
      | cons v S => cases h
      | nil =>
        cases h
        refine W.widen (k := am_mc T) (n := am_ms T) hk hj ?_
        exact W.vret X.1 X.2.1 hr (fun t ht hW => ⟨⟨ad, had, rfl, by rw [ht]; exact hP, hD⟩, hS.F ht⟩) hS.2.2 hd hlocks
  | ireturn =>
    have hh := hend h
    clear h
    obtain ⟨rfl, hk, hj, h⟩ := hh
    cases ht : am_rt T with
    | none => rw [ht] at h; cases h
    | some ty =>
      rw [ht] at h hr
      rcases S with _ | ⟨v, _ | ⟨u, S⟩⟩
      · cases h
      rcases v with v | v
      · have hh := am_fic_inv h
        clear h
        obtain ⟨h1, h⟩ := hh
        cases h
        refine W.widen (k := am_mc T) (n := am_ms T) hk hj ?_
        exact W.zret X.1 X.2.1 hr (am_fit_ok ad ou h1).1 (fun t ht hW => ⟨⟨ad, had, rfl, by rw [ht]; exact hP, hD⟩, hS.F ht⟩) hS.2.2 hd hlocks
      · cases h
      · rcases v with v | v <;> cases h
  | areturn =>
    have hh := hend h
    clear h
    obtain ⟨rfl, hk, hj, h⟩ := hh
    cases ht : am_rt T with
    | none => rw [ht] at h; cases h
    | some ty =>
      rw [ht] at h hr
      rcases S with _ | ⟨v, _ | ⟨u, S⟩⟩
      · cases h
      rcases v with v | v
      · cases h
      · have hh := am_fic_inv h
        clear h
        obtain ⟨h1, h⟩ := hh
        cases h
        refine W.widen (k := am_mc T) (n := am_ms T) hk hj ?_
        refine W.aret X.1 X.2.1 hr ?_ ?_ (fun t ht hW => ⟨⟨ad, had, rfl, by rw [ht]; exact hP, hD⟩, hS.F ht⟩) hS.2.2 hd hlocks
        · cases ty with
          | object n => exact Or.inl ⟨n, rfl⟩
          | array n => exact Or.inr ⟨n, rfl⟩
          | _ => cases h1
        · rcases v with q | q
          · exact Or.inr ⟨_, rfl⟩
          · cases q with
            | zero => exact Or.inl rfl
            | succ q => exact Or.inr ⟨_, rfl⟩
      · rcases v with v | v <;> cases h
  | _ => cases h
end AMS
theorem am_args {ad ou : Nat → Nat} {a : List am_V} : ∀ (d i : Nat) (u : am_V), a[i]? = some u → (d + i, am_v ad ou u) ∈ lv_args d (a.map (am_v ad ou)) := by
  induction a with
  | nil => intro d i u h; cases h
  | cons v r ih =>
    intro d i u h
    rw [List.map_cons]
    unfold lv_args
    rw [if_neg (by rw [am_cat]; decide)]
    cases i with
    | zero =>
      have h1 : v = u := Option.some.inj h
      subst h1
      exact List.mem_cons_self
    | succ i =>
      have h1 := ih (d + 1) i u (by simpa using h)
      rw [show d + (i + 1) = d + 1 + i by omega]
      exact List.mem_cons_of_mem _ h1
/-- the local variables at the start -/
def am_L0 (a : List am_V) (nL : Nat) : List (Option am_V) := a.map some ++ List.replicate (nL - a.length) none
theorem am_L0_ok {ad ou : Nat → Nat} {a : List am_V} {nL : Nat} {ls : Array Slot} (h : lv_has ls nL (lv_args 0 (a.map (am_v ad ou)))) : lv_has ls nL (am_l ad ou (am_L0 a nL)) := by
  refine ⟨h.1, h.2.1, ?_⟩
  rintro ⟨j, v⟩ hq
  obtain ⟨u, h1, rfl⟩ := am_l_mem.mp hq
  apply h.2.2 (j, _)
  have h2 : a[j]? = some u := by
    unfold am_L0 at h1
    by_cases hj : j < a.length
    · rw [List.getElem?_append_left (by simpa using hj), List.getElem?_map] at h1
      cases ha : a[j]? with
      | none => rw [ha] at h1; cases h1
      | some x => rw [ha] at h1; rw [Option.some.inj (Option.some.inj h1)]
    · rw [List.getElem?_append_right (by simp; omega), List.getElem?_replicate] at h1
      split at h1 <;> cases h1
  have h3 := am_args (ad := ad) (ou := ou) 0 j u h2
  rw [Nat.zero_add] at h3
  exact h3
theorem am_lg (ad ou : Nat → Nat) (a : List am_V) : (lg_sl (a.map (am_v ad ou))).length = a.length := by
  induction a with
  | nil => rfl
  | cons v r ih =>
    have h1 : lg_sl ((v :: r).map (am_v ad ou)) = .val (am_v ad ou v) :: lg_sl (r.map (am_v ad ou)) := by
      simp only [List.map_cons, lg_sl, List.flatMap_cons]
      rw [if_neg (by rw [am_cat]; decide)]
      rfl
    rw [h1, List.length_cons, ih, List.length_cons]
/-- a method's contract, by its meaning. E: what else holds of the state (of strings, nest mates ..), whatever the world is -/
def am_Met (l : Launch) (E : (Nat → Prop) → State → Prop) (D : va_G) (cl : List vw_C) (tys : List (ClassId × FieldType)) (ou : Nat → Nat) (ca : Nat → ClassId) (y : MethodName) (ws : List Jvm.Cond) (fr lo : Nat) (pre : List am_V → List am_C → Prop) (f : am_M) : Prop :=
  ∀ (ad : Nat → Nat) (sz : Nat) (a : List am_V) (w : List am_C), pre a w → Met l y ws { frames := fr, cells := (f a w).2.2.1, slots := (f a w).2.2.2, locals := lo } (va_Pc (a.map (am_v ad ou)) (fun U => U.heap.size = sz ∧ va_P D cl (am_w ad ou ca w) U.heap ∧ va_K D cl tys U ∧ va_D (fun _ => True) (am_w ad ou ca w) ∧ E (va_A (am_w ad ou ca w) sz) U)) (am_Qc D cl ou ca w.length ad ((f a w).1, (f a w).2.1) (va_A (am_w ad ou ca w) sz)) (f a w).2.2.1 (f a w).2.2.2 (va_A (am_w ad ou ca w) sz)
