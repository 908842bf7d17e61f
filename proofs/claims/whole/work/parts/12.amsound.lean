/-! WHAT THE MACHINE DOES THE JVM DOES: step by step -/
section AMW
variable {p : Program} {l : Launch} {e : Env} {R : Room} {s : State} {m : MethodId} {args : Array Value} {below : List Frame} {meth : Method} {c : Code} {Q : State → Prop} {cc : ByteArray} {D : va_G} {cl : List vw_C} {tys : List (ClassId × FieldType)} {A : Nat → Prop} {Ts : List Jvm.Cond} {own : String} {nL nt : Nat} {ou : Nat → Nat} {ca : Nat → ClassId}
def am_W (p : Program) (l : Launch) (e : Env) (R : Room) (s : State) (m : MethodId) (args : Array Value) (below : List Frame) (meth : Method) (c : Code) (Q : State → Prop) (D : va_G) (cl : List vw_C) (A : Nat → Prop) (ou : Nat → Nat) (ca : Nat → ClassId) (nL : Nat) (ad : Nat → Nat) (st : am_S) : Prop :=
  ∀ (H : Heap) (locs : List Loc) (ls : Array Slot), va_P D cl (am_w ad ou ca st.2.2.2.1) H → va_D A (am_w ad ou ca st.2.2.2.1) → va_S A s.heap H locs → lv_has ls nL (am_l ad ou st.2.1) → W p l e R s m args below meth c H locs st.2.2.2.2.1 st.2.2.2.2.2 Q (F0 m st.1 ls (st.2.2.1.map (am_v ad ou)))
def am_X (p : Program) (s : State) (m : MethodId) (args : Array Value) (c : Code) (cc : ByteArray) (own : String) (Ts : List Jvm.Cond) (D : va_G) (cl : List vw_C) (tys : List (ClassId × FieldType)) (A : Nat → Prop) (nL : Nat) (ca : Nat → ClassId) (nt : Nat) : Prop :=
  p.tables.exec = Jvm.exec ∧ c.code = cc ∧ c.maxLocals = nL ∧ s.vm.findClass own = some m.cls ∧ (∀ w ∈ Ts, w.before args s = true) ∧ va_K D cl tys s ∧ (∀ q, s.heap.size ≤ q → A q) ∧ (∀ t, t < nt → tys[t]? = some (ca t, am_ty t)) ∧ (∀ t, t < nt → (Jvm.Cond.arrayClass (am_ty t)).before args s = true) ∧ nt ≤ 5
theorem am_bt {α : Type} {b : Bool} {x : Option α} {z : α} (h : (bif b then x else none) = some z) : b = true ∧ x = some z := by
  cases b
  · cases h
  · exact ⟨rfl, h⟩
theorem am_chk_inv {b : Bool} {x : Option am_Z} {z : am_Z} (h : am_chk b x = some z) : b = true ∧ x = some z := by
  cases b
  · cases h
  · exact ⟨rfl, h⟩
theorem am_fic_inv {ty : FieldType} {v : am_V} {x : Option am_Z} {z : am_Z} (h : am_fic ty v x = some z) : am_fit ty v = true ∧ x = some z := by
  cases ty <;> first | exact am_bt h | exact am_chk_inv h
theorem am_chq_inv {b : Bool} {x : Option am_Z} {z : am_Z} (h : am_chq b x = some z) : b = true ∧ x = some z := by
  unfold am_chq at h
  by_cases hb : b = true
  · rw [if_pos hb] at h
    exact ⟨hb, h⟩
  · rw [if_neg hb] at h
    cases h
theorem am_nx_inv {len pc want k j : Nat} {kt : am_S → Option am_Z} {L : List (Option am_V)} {S : List am_V} {w : List am_C} {z : am_Z} (h : am_nx len pc kt want L S w k j = some z) : len = want ∧ kt (pc + want, L, S, w, k, j) = some z := by
  obtain ⟨h1, h2⟩ := am_bt h
  exact ⟨by simpa using h1, h2⟩
theorem am_jp_inv {len pc k j : Nat} {off : Int} {kt : am_S → Option am_Z} {L : List (Option am_V)} {S : List am_V} {w : List am_C} {z : am_Z} (h : am_jp len pc L w k j kt off S = some z) : len = 3 ∧ (pc : Int) + off = (am_tg pc off : Int) ∧ kt (am_tg pc off, L, S, w, k, j) = some z := by
  obtain ⟨h1, h2⟩ := am_bt h
  rw [Bool.and_eq_true] at h1
  exact ⟨by simpa using h1.1, am_tg_ok h1.2, h2⟩
theorem am_inb_ok {i : Int32} {n : Nat} (h : am_inb i n = true) : vp_in i n := by
  intro hc
  rcases hc with hc | hc
  · simp [am_inb, hc] at h
  · have h1 : Nat.ble n i.toNatClampNeg = true := Nat.ble_eq_true_of_le hc
    simp [am_inb, h1] at h
theorem am_o_iload_n {len pc k j : Nat} {ad : Nat → Nat} {kt : am_S → Option am_Z} {L : List (Option am_V)} {S : List am_V} {w : List am_C} {z : am_Z} {x : Fin 4} (X : am_X p s m args c cc own Ts D cl tys A nL ca nt) (hd : decode cc pc = .ok (.iload_n x, len)) (h : am_ild len pc L S w k j kt 1 x.val = some z) (K : ∀ st' : am_S, kt st' = some z → am_W p l e R s m args below meth c Q D cl A ou ca nL ad st') : am_W p l e R s m args below meth c Q D cl A ou ca nL ad (pc, L, S, w, k, j) := by
  unfold am_ild at h
  split at h
  · rename_i v hg
    obtain ⟨rfl, hk⟩ := am_nx_inv h
    exact fun H locs ls hP hD hS hl => lv_iload_n X.1 X.2.1 hd rfl (am_l_at hl (am_g_ok hg)) (K _ hk H locs ls hP hD hS hl)
  · cases h
theorem am_o_iload {len pc k j : Nat} {ad : Nat → Nat} {kt : am_S → Option am_Z} {L : List (Option am_V)} {S : List am_V} {w : List am_C} {z : am_Z} {x : Nat} (X : am_X p s m args c cc own Ts D cl tys A nL ca nt) (hd : decode cc pc = .ok (.iload x, len)) (h : am_ild len pc L S w k j kt 2 x = some z) (K : ∀ st' : am_S, kt st' = some z → am_W p l e R s m args below meth c Q D cl A ou ca nL ad st') : am_W p l e R s m args below meth c Q D cl A ou ca nL ad (pc, L, S, w, k, j) := by
  unfold am_ild at h
  split at h
  · rename_i v hg
    obtain ⟨rfl, hk⟩ := am_nx_inv h
    exact fun H locs ls hP hD hS hl => lv_iload X.1 X.2.1 hd (am_l_at hl (am_g_ok hg)) (K _ hk H locs ls hP hD hS hl)
  · cases h
theorem am_o_aload_n {len pc k j : Nat} {ad : Nat → Nat} {kt : am_S → Option am_Z} {L : List (Option am_V)} {S : List am_V} {w : List am_C} {z : am_Z} {x : Fin 4} (X : am_X p s m args c cc own Ts D cl tys A nL ca nt) (hd : decode cc pc = .ok (.aload_n x, len)) (h : am_ald len pc L S w k j kt 1 x.val = some z) (K : ∀ st' : am_S, kt st' = some z → am_W p l e R s m args below meth c Q D cl A ou ca nL ad st') : am_W p l e R s m args below meth c Q D cl A ou ca nL ad (pc, L, S, w, k, j) := by
  unfold am_ald at h
  split at h
  · rename_i v hg
    obtain ⟨rfl, hk⟩ := am_nx_inv h
    have hg := am_g_ok hg
    rcases v with q | q
    · exact fun H locs ls hP hD hS hl => lv_aload_n X.1 X.2.1 hd rfl (am_l_at hl hg) (K _ hk H locs ls hP hD hS hl)
    · cases q with
      | zero => exact fun H locs ls hP hD hS hl => lv_aload_nN X.1 X.2.1 hd rfl (am_l_at hl hg) (K _ hk H locs ls hP hD hS hl)
      | succ q => exact fun H locs ls hP hD hS hl => lv_aload_n X.1 X.2.1 hd rfl (am_l_at hl hg) (K _ hk H locs ls hP hD hS hl)
  · cases h
theorem am_o_aload {len pc k j : Nat} {ad : Nat → Nat} {kt : am_S → Option am_Z} {L : List (Option am_V)} {S : List am_V} {w : List am_C} {z : am_Z} {x : Nat} (X : am_X p s m args c cc own Ts D cl tys A nL ca nt) (hd : decode cc pc = .ok (.aload x, len)) (h : am_ald len pc L S w k j kt 2 x = some z) (K : ∀ st' : am_S, kt st' = some z → am_W p l e R s m args below meth c Q D cl A ou ca nL ad st') : am_W p l e R s m args below meth c Q D cl A ou ca nL ad (pc, L, S, w, k, j) := by
  unfold am_ald at h
  split at h
  · rename_i v hg
    obtain ⟨rfl, hk⟩ := am_nx_inv h
    have hg := am_g_ok hg
    rcases v with q | q
    · exact fun H locs ls hP hD hS hl => lv_aload X.1 X.2.1 hd (am_l_at hl hg) (K _ hk H locs ls hP hD hS hl)
    · cases q with
      | zero => exact fun H locs ls hP hD hS hl => lv_aloadN X.1 X.2.1 hd (am_l_at hl hg) (K _ hk H locs ls hP hD hS hl)
      | succ q => exact fun H locs ls hP hD hS hl => lv_aload X.1 X.2.1 hd (am_l_at hl hg) (K _ hk H locs ls hP hD hS hl)
  · cases h
theorem am_o_istore_n {len pc k j : Nat} {ad : Nat → Nat} {kt : am_S → Option am_Z} {L : List (Option am_V)} {S : List am_V} {w : List am_C} {z : am_Z} {x : Fin 4} {T : am_T} (X : am_X p s m args c cc own Ts D cl tys A nL ca nt) (hT : am_nl T = nL) (hd : decode cc pc = .ok (.istore_n x, len)) (h : am_ist T len pc L S w k j kt 1 x.val = some z) (K : ∀ st' : am_S, kt st' = some z → am_W p l e R s m args below meth c Q D cl A ou ca nL ad st') : am_W p l e R s m args below meth c Q D cl A ou ca nL ad (pc, L, S, w, k, j) := by
  unfold am_ist at h
  split at h
  · rename_i v S'
    have hh := am_bt h
    clear h
    obtain ⟨hi, h⟩ := hh
    obtain ⟨rfl, hk⟩ := am_nx_inv h
    rw [hT] at hi
    exact fun H locs ls hP hD hS hl => lv_istore_n X.1 X.2.1 hd rfl hl (Nat.le_of_ble_eq_true hi) rfl (fun ls' hl' => K _ hk H locs ls' hP hD hS (am_l_set (u := .inl v) hl'))
  · cases h
theorem am_o_istore {len pc k j : Nat} {ad : Nat → Nat} {kt : am_S → Option am_Z} {L : List (Option am_V)} {S : List am_V} {w : List am_C} {z : am_Z} {x : Nat} {T : am_T} (X : am_X p s m args c cc own Ts D cl tys A nL ca nt) (hT : am_nl T = nL) (hd : decode cc pc = .ok (.istore x, len)) (h : am_ist T len pc L S w k j kt 2 x = some z) (K : ∀ st' : am_S, kt st' = some z → am_W p l e R s m args below meth c Q D cl A ou ca nL ad st') : am_W p l e R s m args below meth c Q D cl A ou ca nL ad (pc, L, S, w, k, j) := by
  unfold am_ist at h
  split at h
  · rename_i v S'
    have hh := am_bt h
    clear h
    obtain ⟨hi, h⟩ := hh
    obtain ⟨rfl, hk⟩ := am_nx_inv h
    rw [hT] at hi
    exact fun H locs ls hP hD hS hl => lv_istore X.1 X.2.1 hd hl (Nat.le_of_ble_eq_true hi) rfl (fun ls' hl' => K _ hk H locs ls' hP hD hS (am_l_set (u := .inl v) hl'))
  · cases h
theorem am_o_astore_n {len pc k j : Nat} {ad : Nat → Nat} {kt : am_S → Option am_Z} {L : List (Option am_V)} {S : List am_V} {w : List am_C} {z : am_Z} {x : Fin 4} {T : am_T} (X : am_X p s m args c cc own Ts D cl tys A nL ca nt) (hT : am_nl T = nL) (hd : decode cc pc = .ok (.astore_n x, len)) (h : am_ast T len pc L S w k j kt 1 x.val = some z) (K : ∀ st' : am_S, kt st' = some z → am_W p l e R s m args below meth c Q D cl A ou ca nL ad st') : am_W p l e R s m args below meth c Q D cl A ou ca nL ad (pc, L, S, w, k, j) := by
  unfold am_ast at h
  split at h
  · rename_i v S'
    have hh := am_bt h
    clear h
    obtain ⟨hi, h⟩ := hh
    obtain ⟨rfl, hk⟩ := am_nx_inv h
    rw [hT] at hi
    rcases v with q | q
    · exact fun H locs ls hP hD hS hl => lv_astore_n X.1 X.2.1 hd rfl hl (Nat.le_of_ble_eq_true hi) rfl (fun ls' hl' => K _ hk H locs ls' hP hD hS (am_l_set (u := .inr (.inl q)) hl'))
    · cases q with
      | zero => exact fun H locs ls hP hD hS hl => lv_astore_nN X.1 X.2.1 hd rfl hl (Nat.le_of_ble_eq_true hi) rfl (fun ls' hl' => K _ hk H locs ls' hP hD hS (am_l_set (u := .inr (.inr 0)) hl'))
      | succ q => exact fun H locs ls hP hD hS hl => lv_astore_n X.1 X.2.1 hd rfl hl (Nat.le_of_ble_eq_true hi) rfl (fun ls' hl' => K _ hk H locs ls' hP hD hS (am_l_set (u := .inr (.inr (q + 1))) hl'))
  · cases h
theorem am_o_astore {len pc k j : Nat} {ad : Nat → Nat} {kt : am_S → Option am_Z} {L : List (Option am_V)} {S : List am_V} {w : List am_C} {z : am_Z} {x : Nat} {T : am_T} (X : am_X p s m args c cc own Ts D cl tys A nL ca nt) (hT : am_nl T = nL) (hd : decode cc pc = .ok (.astore x, len)) (h : am_ast T len pc L S w k j kt 2 x = some z) (K : ∀ st' : am_S, kt st' = some z → am_W p l e R s m args below meth c Q D cl A ou ca nL ad st') : am_W p l e R s m args below meth c Q D cl A ou ca nL ad (pc, L, S, w, k, j) := by
  unfold am_ast at h
  split at h
  · rename_i v S'
    have hh := am_bt h
    clear h
    obtain ⟨hi, h⟩ := hh
    obtain ⟨rfl, hk⟩ := am_nx_inv h
    rw [hT] at hi
    rcases v with q | q
    · exact fun H locs ls hP hD hS hl => lv_astore X.1 X.2.1 hd hl (Nat.le_of_ble_eq_true hi) rfl (fun ls' hl' => K _ hk H locs ls' hP hD hS (am_l_set (u := .inr (.inl q)) hl'))
    · cases q with
      | zero => exact fun H locs ls hP hD hS hl => lv_astoreN X.1 X.2.1 hd hl (Nat.le_of_ble_eq_true hi) rfl (fun ls' hl' => K _ hk H locs ls' hP hD hS (am_l_set (u := .inr (.inr 0)) hl'))
      | succ q => exact fun H locs ls hP hD hS hl => lv_astore X.1 X.2.1 hd hl (Nat.le_of_ble_eq_true hi) rfl (fun ls' hl' => K _ hk H locs ls' hP hD hS (am_l_set (u := .inr (.inr (q + 1))) hl'))
  · cases h
theorem am_o_iinc {len pc k j : Nat} {ad : Nat → Nat} {kt : am_S → Option am_Z} {L : List (Option am_V)} {S : List am_V} {w : List am_C} {z : am_Z} {x : Nat} {n : Int} {T : am_T} (X : am_X p s m args c cc own Ts D cl tys A nL ca nt) (hT : am_nl T = nL) (hd : decode cc pc = .ok (.iinc x n, len)) (h : am_inc T len pc L S w k j kt x n = some z) (K : ∀ st' : am_S, kt st' = some z → am_W p l e R s m args below meth c Q D cl A ou ca nL ad st') : am_W p l e R s m args below meth c Q D cl A ou ca nL ad (pc, L, S, w, k, j) := by
  unfold am_inc at h
  split at h
  · rename_i v hg
    have hh := am_bt h
    clear h
    obtain ⟨hi, h⟩ := hh
    obtain ⟨rfl, hk⟩ := am_nx_inv h
    rw [hT] at hi
    have hm : (x, am_v ad ou (.inl v)) ∈ am_l ad ou L := am_l_mem.mpr ⟨_, am_g_ok hg, rfl⟩
    obtain ⟨k0, hk0⟩ := List.getElem?_of_mem hm
    exact fun H locs ls hP hD hS hl => lv_iinc (k := k0) (v := v + Int32.ofInt n) X.1 X.2.1 hd hl hk0 rfl (Nat.le_of_ble_eq_true hi) rfl (fun ls' hl' => K _ hk H locs ls' hP hD hS (am_l_set (u := .inl (v + Int32.ofInt n)) hl'))
  · cases h
theorem am_o_iconst {len pc k j : Nat} {ad : Nat → Nat} {kt : am_S → Option am_Z} {L : List (Option am_V)} {S : List am_V} {w : List am_C} {z : am_Z} {n : Int} (X : am_X p s m args c cc own Ts D cl tys A nL ca nt) (hd : decode cc pc = .ok (.iconst n, len)) (h : am_psh len pc L S w k j kt 1 (.inl (Int32.ofInt n)) = some z) (K : ∀ st' : am_S, kt st' = some z → am_W p l e R s m args below meth c Q D cl A ou ca nL ad st') : am_W p l e R s m args below meth c Q D cl A ou ca nL ad (pc, L, S, w, k, j) := by
  obtain ⟨rfl, hk⟩ := am_nx_inv h
  exact fun H locs ls hP hD hS hl => lv_iconst X.1 X.2.1 hd rfl (K _ hk H locs ls hP hD hS hl)
theorem am_o_bipush {len pc k j : Nat} {ad : Nat → Nat} {kt : am_S → Option am_Z} {L : List (Option am_V)} {S : List am_V} {w : List am_C} {z : am_Z} {n : Int} (X : am_X p s m args c cc own Ts D cl tys A nL ca nt) (hd : decode cc pc = .ok (.bipush n, len)) (h : am_psh len pc L S w k j kt 2 (.inl (Int8.ofInt n).toInt32) = some z) (K : ∀ st' : am_S, kt st' = some z → am_W p l e R s m args below meth c Q D cl A ou ca nL ad st') : am_W p l e R s m args below meth c Q D cl A ou ca nL ad (pc, L, S, w, k, j) := by
  obtain ⟨rfl, hk⟩ := am_nx_inv h
  exact fun H locs ls hP hD hS hl => lv_bipush X.1 X.2.1 hd rfl (K _ hk H locs ls hP hD hS hl)
theorem am_o_sipush {len pc k j : Nat} {ad : Nat → Nat} {kt : am_S → Option am_Z} {L : List (Option am_V)} {S : List am_V} {w : List am_C} {z : am_Z} {n : Int} (X : am_X p s m args c cc own Ts D cl tys A nL ca nt) (hd : decode cc pc = .ok (.sipush n, len)) (h : am_psh len pc L S w k j kt 3 (.inl (Int16.ofInt n).toInt32) = some z) (K : ∀ st' : am_S, kt st' = some z → am_W p l e R s m args below meth c Q D cl A ou ca nL ad st') : am_W p l e R s m args below meth c Q D cl A ou ca nL ad (pc, L, S, w, k, j) := by
  obtain ⟨rfl, hk⟩ := am_nx_inv h
  exact fun H locs ls hP hD hS hl => lv_sipush X.1 X.2.1 hd rfl (K _ hk H locs ls hP hD hS hl)
theorem am_o_null {len pc k j : Nat} {ad : Nat → Nat} {kt : am_S → Option am_Z} {L : List (Option am_V)} {S : List am_V} {w : List am_C} {z : am_Z}  (X : am_X p s m args c cc own Ts D cl tys A nL ca nt) (hd : decode cc pc = .ok (.aconst_null, len)) (h : am_psh len pc L S w k j kt 1 (.inr (.inr 0)) = some z) (K : ∀ st' : am_S, kt st' = some z → am_W p l e R s m args below meth c Q D cl A ou ca nL ad st') : am_W p l e R s m args below meth c Q D cl A ou ca nL ad (pc, L, S, w, k, j) := by
  obtain ⟨rfl, hk⟩ := am_nx_inv h
  exact fun H locs ls hP hD hS hl => lv_null X.1 X.2.1 hd (K _ hk H locs ls hP hD hS hl)
theorem am_o_iadd {len pc k j : Nat} {ad : Nat → Nat} {kt : am_S → Option am_Z} {L : List (Option am_V)} {S : List am_V} {w : List am_C} {z : am_Z}  (X : am_X p s m args c cc own Ts D cl tys A nL ca nt) (hd : decode cc pc = .ok (.iadd, len)) (h : am_bin len pc L S w k j kt (fun x y => x + y) = some z) (K : ∀ st' : am_S, kt st' = some z → am_W p l e R s m args below meth c Q D cl A ou ca nL ad st') : am_W p l e R s m args below meth c Q D cl A ou ca nL ad (pc, L, S, w, k, j) := by
  unfold am_bin at h
  split at h
  · obtain ⟨rfl, hk⟩ := am_nx_inv h
    exact fun H locs ls hP hD hS hl => lv_iadd X.1 X.2.1 hd (K _ hk H locs ls hP hD hS hl)
  · cases h
theorem am_o_isub {len pc k j : Nat} {ad : Nat → Nat} {kt : am_S → Option am_Z} {L : List (Option am_V)} {S : List am_V} {w : List am_C} {z : am_Z}  (X : am_X p s m args c cc own Ts D cl tys A nL ca nt) (hd : decode cc pc = .ok (.isub, len)) (h : am_bin len pc L S w k j kt (fun x y => x - y) = some z) (K : ∀ st' : am_S, kt st' = some z → am_W p l e R s m args below meth c Q D cl A ou ca nL ad st') : am_W p l e R s m args below meth c Q D cl A ou ca nL ad (pc, L, S, w, k, j) := by
  unfold am_bin at h
  split at h
  · obtain ⟨rfl, hk⟩ := am_nx_inv h
    exact fun H locs ls hP hD hS hl => lv_isub X.1 X.2.1 hd (K _ hk H locs ls hP hD hS hl)
  · cases h
theorem am_o_imul {len pc k j : Nat} {ad : Nat → Nat} {kt : am_S → Option am_Z} {L : List (Option am_V)} {S : List am_V} {w : List am_C} {z : am_Z}  (X : am_X p s m args c cc own Ts D cl tys A nL ca nt) (hd : decode cc pc = .ok (.imul, len)) (h : am_bin len pc L S w k j kt (fun x y => x * y) = some z) (K : ∀ st' : am_S, kt st' = some z → am_W p l e R s m args below meth c Q D cl A ou ca nL ad st') : am_W p l e R s m args below meth c Q D cl A ou ca nL ad (pc, L, S, w, k, j) := by
  unfold am_bin at h
  split at h
  · obtain ⟨rfl, hk⟩ := am_nx_inv h
    exact fun H locs ls hP hD hS hl => lv_imul X.1 X.2.1 hd (K _ hk H locs ls hP hD hS hl)
  · cases h
theorem am_o_iand {len pc k j : Nat} {ad : Nat → Nat} {kt : am_S → Option am_Z} {L : List (Option am_V)} {S : List am_V} {w : List am_C} {z : am_Z}  (X : am_X p s m args c cc own Ts D cl tys A nL ca nt) (hd : decode cc pc = .ok (.iand, len)) (h : am_bin len pc L S w k j kt (fun x y => x &&& y) = some z) (K : ∀ st' : am_S, kt st' = some z → am_W p l e R s m args below meth c Q D cl A ou ca nL ad st') : am_W p l e R s m args below meth c Q D cl A ou ca nL ad (pc, L, S, w, k, j) := by
  unfold am_bin at h
  split at h
  · obtain ⟨rfl, hk⟩ := am_nx_inv h
    exact fun H locs ls hP hD hS hl => lv_iand X.1 X.2.1 hd (K _ hk H locs ls hP hD hS hl)
  · cases h
theorem am_o_ior {len pc k j : Nat} {ad : Nat → Nat} {kt : am_S → Option am_Z} {L : List (Option am_V)} {S : List am_V} {w : List am_C} {z : am_Z}  (X : am_X p s m args c cc own Ts D cl tys A nL ca nt) (hd : decode cc pc = .ok (.ior, len)) (h : am_bin len pc L S w k j kt (fun x y => x ||| y) = some z) (K : ∀ st' : am_S, kt st' = some z → am_W p l e R s m args below meth c Q D cl A ou ca nL ad st') : am_W p l e R s m args below meth c Q D cl A ou ca nL ad (pc, L, S, w, k, j) := by
  unfold am_bin at h
  split at h
  · obtain ⟨rfl, hk⟩ := am_nx_inv h
    exact fun H locs ls hP hD hS hl => lv_ior X.1 X.2.1 hd (K _ hk H locs ls hP hD hS hl)
  · cases h
theorem am_o_ixor {len pc k j : Nat} {ad : Nat → Nat} {kt : am_S → Option am_Z} {L : List (Option am_V)} {S : List am_V} {w : List am_C} {z : am_Z}  (X : am_X p s m args c cc own Ts D cl tys A nL ca nt) (hd : decode cc pc = .ok (.ixor, len)) (h : am_bin len pc L S w k j kt (fun x y => x ^^^ y) = some z) (K : ∀ st' : am_S, kt st' = some z → am_W p l e R s m args below meth c Q D cl A ou ca nL ad st') : am_W p l e R s m args below meth c Q D cl A ou ca nL ad (pc, L, S, w, k, j) := by
  unfold am_bin at h
  split at h
  · obtain ⟨rfl, hk⟩ := am_nx_inv h
    exact fun H locs ls hP hD hS hl => lv_ixor X.1 X.2.1 hd (K _ hk H locs ls hP hD hS hl)
  · cases h
theorem am_o_ishl {len pc k j : Nat} {ad : Nat → Nat} {kt : am_S → Option am_Z} {L : List (Option am_V)} {S : List am_V} {w : List am_C} {z : am_Z}  (X : am_X p s m args c cc own Ts D cl tys A nL ca nt) (hd : decode cc pc = .ok (.ishl, len)) (h : am_bin len pc L S w k j kt (fun x y => x <<< (y &&& 31)) = some z) (K : ∀ st' : am_S, kt st' = some z → am_W p l e R s m args below meth c Q D cl A ou ca nL ad st') : am_W p l e R s m args below meth c Q D cl A ou ca nL ad (pc, L, S, w, k, j) := by
  unfold am_bin at h
  split at h
  · obtain ⟨rfl, hk⟩ := am_nx_inv h
    exact fun H locs ls hP hD hS hl => lv_ishl X.1 X.2.1 hd (K _ hk H locs ls hP hD hS hl)
  · cases h
theorem am_o_ishr {len pc k j : Nat} {ad : Nat → Nat} {kt : am_S → Option am_Z} {L : List (Option am_V)} {S : List am_V} {w : List am_C} {z : am_Z}  (X : am_X p s m args c cc own Ts D cl tys A nL ca nt) (hd : decode cc pc = .ok (.ishr, len)) (h : am_bin len pc L S w k j kt (fun x y => x >>> (y &&& 31)) = some z) (K : ∀ st' : am_S, kt st' = some z → am_W p l e R s m args below meth c Q D cl A ou ca nL ad st') : am_W p l e R s m args below meth c Q D cl A ou ca nL ad (pc, L, S, w, k, j) := by
  unfold am_bin at h
  split at h
  · obtain ⟨rfl, hk⟩ := am_nx_inv h
    exact fun H locs ls hP hD hS hl => lv_ishr X.1 X.2.1 hd (K _ hk H locs ls hP hD hS hl)
  · cases h
theorem am_o_iushr {len pc k j : Nat} {ad : Nat → Nat} {kt : am_S → Option am_Z} {L : List (Option am_V)} {S : List am_V} {w : List am_C} {z : am_Z}  (X : am_X p s m args c cc own Ts D cl tys A nL ca nt) (hd : decode cc pc = .ok (.iushr, len)) (h : am_bin len pc L S w k j kt (fun x y => (x.toUInt32 >>> (y.toUInt32 &&& Int32.toUInt32 31)).toInt32) = some z) (K : ∀ st' : am_S, kt st' = some z → am_W p l e R s m args below meth c Q D cl A ou ca nL ad st') : am_W p l e R s m args below meth c Q D cl A ou ca nL ad (pc, L, S, w, k, j) := by
  unfold am_bin at h
  split at h
  · obtain ⟨rfl, hk⟩ := am_nx_inv h
    exact fun H locs ls hP hD hS hl => lv_iushr X.1 X.2.1 hd rfl (K _ hk H locs ls hP hD hS hl)
  · cases h
theorem am_o_idiv {len pc k j : Nat} {ad : Nat → Nat} {kt : am_S → Option am_Z} {L : List (Option am_V)} {S : List am_V} {w : List am_C} {z : am_Z}  (X : am_X p s m args c cc own Ts D cl tys A nL ca nt) (hd : decode cc pc = .ok (.idiv, len)) (h : am_div len pc L S w k j kt (fun x y => x / y) = some z) (K : ∀ st' : am_S, kt st' = some z → am_W p l e R s m args below meth c Q D cl A ou ca nL ad st') : am_W p l e R s m args below meth c Q D cl A ou ca nL ad (pc, L, S, w, k, j) := by
  unfold am_div at h
  split at h
  · split at h
    · cases h
    · rename_i hy
      obtain ⟨rfl, hk⟩ := am_nx_inv h
      exact fun H locs ls hP hD hS hl => lv_idiv X.1 X.2.1 hd hy (K _ hk H locs ls hP hD hS hl)
  · cases h
theorem am_o_irem {len pc k j : Nat} {ad : Nat → Nat} {kt : am_S → Option am_Z} {L : List (Option am_V)} {S : List am_V} {w : List am_C} {z : am_Z}  (X : am_X p s m args c cc own Ts D cl tys A nL ca nt) (hd : decode cc pc = .ok (.irem, len)) (h : am_div len pc L S w k j kt (fun x y => x - x / y * y) = some z) (K : ∀ st' : am_S, kt st' = some z → am_W p l e R s m args below meth c Q D cl A ou ca nL ad st') : am_W p l e R s m args below meth c Q D cl A ou ca nL ad (pc, L, S, w, k, j) := by
  unfold am_div at h
  split at h
  · split at h
    · cases h
    · rename_i hy
      obtain ⟨rfl, hk⟩ := am_nx_inv h
      exact fun H locs ls hP hD hS hl => lv_irem X.1 X.2.1 hd hy (K _ hk H locs ls hP hD hS hl)
  · cases h
theorem am_o_ineg {len pc k j : Nat} {ad : Nat → Nat} {kt : am_S → Option am_Z} {L : List (Option am_V)} {S : List am_V} {w : List am_C} {z : am_Z}  (X : am_X p s m args c cc own Ts D cl tys A nL ca nt) (hd : decode cc pc = .ok (.ineg, len)) (h : am_un len pc L S w k j kt (fun x => -x) = some z) (K : ∀ st' : am_S, kt st' = some z → am_W p l e R s m args below meth c Q D cl A ou ca nL ad st') : am_W p l e R s m args below meth c Q D cl A ou ca nL ad (pc, L, S, w, k, j) := by
  unfold am_un at h
  split at h
  · obtain ⟨rfl, hk⟩ := am_nx_inv h
    exact fun H locs ls hP hD hS hl => lv_ineg X.1 X.2.1 hd (K _ hk H locs ls hP hD hS hl)
  · cases h
theorem am_o_i2c {len pc k j : Nat} {ad : Nat → Nat} {kt : am_S → Option am_Z} {L : List (Option am_V)} {S : List am_V} {w : List am_C} {z : am_Z}  (X : am_X p s m args c cc own Ts D cl tys A nL ca nt) (hd : decode cc pc = .ok (.i2c, len)) (h : am_un len pc L S w k j kt (fun x => (x.toUInt32 % 65536).toInt32) = some z) (K : ∀ st' : am_S, kt st' = some z → am_W p l e R s m args below meth c Q D cl A ou ca nL ad st') : am_W p l e R s m args below meth c Q D cl A ou ca nL ad (pc, L, S, w, k, j) := by
  unfold am_un at h
  split at h
  · obtain ⟨rfl, hk⟩ := am_nx_inv h
    exact fun H locs ls hP hD hS hl => lv_i2c X.1 X.2.1 hd rfl (K _ hk H locs ls hP hD hS hl)
  · cases h
theorem am_o_i2b {len pc k j : Nat} {ad : Nat → Nat} {kt : am_S → Option am_Z} {L : List (Option am_V)} {S : List am_V} {w : List am_C} {z : am_Z}  (X : am_X p s m args c cc own Ts D cl tys A nL ca nt) (hd : decode cc pc = .ok (.i2b, len)) (h : am_un len pc L S w k j kt (fun x => x.toInt8.toInt32) = some z) (K : ∀ st' : am_S, kt st' = some z → am_W p l e R s m args below meth c Q D cl A ou ca nL ad st') : am_W p l e R s m args below meth c Q D cl A ou ca nL ad (pc, L, S, w, k, j) := by
  unfold am_un at h
  split at h
  · obtain ⟨rfl, hk⟩ := am_nx_inv h
    exact fun H locs ls hP hD hS hl => lv_i2b X.1 X.2.1 hd rfl (K _ hk H locs ls hP hD hS hl)
  · cases h
theorem am_o_ifz {len pc k j : Nat} {ad : Nat → Nat} {kt : am_S → Option am_Z} {L : List (Option am_V)} {S : List am_V} {w : List am_C} {z : am_Z} {cd : ClassFile.Cond} {off : Int} (X : am_X p s m args c cc own Ts D cl tys A nL ca nt) (hd : decode cc pc = .ok (.ifCond cd off, len)) (h : am_ifz len pc L S w k j kt cd off = some z) (K : ∀ st' : am_S, kt st' = some z → am_W p l e R s m args below meth c Q D cl A ou ca nL ad st') : am_W p l e R s m args below meth c Q D cl A ou ca nL ad (pc, L, S, w, k, j) := by
  unfold am_ifz at h
  split at h
  · have hh := am_bt h
    clear h
    obtain ⟨h0, h⟩ := hh
    rw [Bool.and_eq_true] at h0
    have h3 : len = 3 := by simpa using h0.2
    have ht := am_tg_ok h0.1
    subst h3
    intro H locs ls hP hD hS hl
    cases cd with
    | eq =>
      dsimp only at h
      split at h
      · rename_i hc
        obtain ⟨-, -, hk⟩ := am_jp_inv h
        exact lv_if_eq X.1 X.2.1 hd ht (fun _ => K _ hk H locs ls hP hD hS hl) (fun q => absurd hc q)
      · rename_i hc
        obtain ⟨-, hk⟩ := am_nx_inv h
        exact lv_if_eq X.1 X.2.1 hd ht (fun q => absurd q hc) (fun _ => K _ hk H locs ls hP hD hS hl)
    | ne =>
      dsimp only at h
      split at h
      · rename_i hc
        obtain ⟨-, hk⟩ := am_nx_inv h
        exact lv_if_ne X.1 X.2.1 hd ht (fun q => absurd hc q) (fun _ => K _ hk H locs ls hP hD hS hl)
      · rename_i hc
        obtain ⟨-, -, hk⟩ := am_jp_inv h
        exact lv_if_ne X.1 X.2.1 hd ht (fun _ => K _ hk H locs ls hP hD hS hl) (fun q => absurd q hc)
    | lt =>
      dsimp only at h
      split at h
      · rename_i hc
        obtain ⟨-, -, hk⟩ := am_jp_inv h
        exact lv_if_lt X.1 X.2.1 hd ht (fun _ => K _ hk H locs ls hP hD hS hl) (fun q => absurd hc q)
      · rename_i hc
        obtain ⟨-, hk⟩ := am_nx_inv h
        exact lv_if_lt X.1 X.2.1 hd ht (fun q => absurd q hc) (fun _ => K _ hk H locs ls hP hD hS hl)
    | ge =>
      dsimp only at h
      split at h
      · rename_i hc
        obtain ⟨-, -, hk⟩ := am_jp_inv h
        exact lv_if_ge X.1 X.2.1 hd ht (fun _ => K _ hk H locs ls hP hD hS hl) (fun q => absurd hc q)
      · rename_i hc
        obtain ⟨-, hk⟩ := am_nx_inv h
        exact lv_if_ge X.1 X.2.1 hd ht (fun q => absurd q hc) (fun _ => K _ hk H locs ls hP hD hS hl)
    | gt =>
      dsimp only at h
      split at h
      · rename_i hc
        obtain ⟨-, -, hk⟩ := am_jp_inv h
        exact lv_if_gt X.1 X.2.1 hd ht (fun _ => K _ hk H locs ls hP hD hS hl) (fun q => absurd hc q)
      · rename_i hc
        obtain ⟨-, hk⟩ := am_nx_inv h
        exact lv_if_gt X.1 X.2.1 hd ht (fun q => absurd q hc) (fun _ => K _ hk H locs ls hP hD hS hl)
    | le =>
      dsimp only at h
      split at h
      · rename_i hc
        obtain ⟨-, -, hk⟩ := am_jp_inv h
        exact lv_if_le X.1 X.2.1 hd ht (fun _ => K _ hk H locs ls hP hD hS hl) (fun q => absurd hc q)
      · rename_i hc
        obtain ⟨-, hk⟩ := am_nx_inv h
        exact lv_if_le X.1 X.2.1 hd ht (fun q => absurd q hc) (fun _ => K _ hk H locs ls hP hD hS hl)
  · cases h
theorem am_o_icm {len pc k j : Nat} {ad : Nat → Nat} {kt : am_S → Option am_Z} {L : List (Option am_V)} {S : List am_V} {w : List am_C} {z : am_Z} {cd : ClassFile.Cond} {off : Int} (X : am_X p s m args c cc own Ts D cl tys A nL ca nt) (hd : decode cc pc = .ok (.if_icmp cd off, len)) (h : am_icm len pc L S w k j kt cd off = some z) (K : ∀ st' : am_S, kt st' = some z → am_W p l e R s m args below meth c Q D cl A ou ca nL ad st') : am_W p l e R s m args below meth c Q D cl A ou ca nL ad (pc, L, S, w, k, j) := by
  unfold am_icm at h
  split at h
  · have hh := am_bt h
    clear h
    obtain ⟨h0, h⟩ := hh
    rw [Bool.and_eq_true] at h0
    have h3 : len = 3 := by simpa using h0.2
    have ht := am_tg_ok h0.1
    subst h3
    intro H locs ls hP hD hS hl
    cases cd with
    | eq =>
      dsimp only at h
      split at h
      · rename_i hc
        obtain ⟨-, -, hk⟩ := am_jp_inv h
        exact lv_icmp_eq X.1 X.2.1 hd ht (fun _ => K _ hk H locs ls hP hD hS hl) (fun q => absurd hc q)
      · rename_i hc
        obtain ⟨-, hk⟩ := am_nx_inv h
        exact lv_icmp_eq X.1 X.2.1 hd ht (fun q => absurd q hc) (fun _ => K _ hk H locs ls hP hD hS hl)
    | ne =>
      dsimp only at h
      split at h
      · rename_i hc
        obtain ⟨-, hk⟩ := am_nx_inv h
        exact lv_icmp_ne X.1 X.2.1 hd ht (fun q => absurd hc q) (fun _ => K _ hk H locs ls hP hD hS hl)
      · rename_i hc
        obtain ⟨-, -, hk⟩ := am_jp_inv h
        exact lv_icmp_ne X.1 X.2.1 hd ht (fun _ => K _ hk H locs ls hP hD hS hl) (fun q => absurd q hc)
    | lt =>
      dsimp only at h
      split at h
      · rename_i hc
        obtain ⟨-, -, hk⟩ := am_jp_inv h
        exact lv_icmp_lt X.1 X.2.1 hd ht (fun _ => K _ hk H locs ls hP hD hS hl) (fun q => absurd hc q)
      · rename_i hc
        obtain ⟨-, hk⟩ := am_nx_inv h
        exact lv_icmp_lt X.1 X.2.1 hd ht (fun q => absurd q hc) (fun _ => K _ hk H locs ls hP hD hS hl)
    | ge =>
      dsimp only at h
      split at h
      · rename_i hc
        obtain ⟨-, -, hk⟩ := am_jp_inv h
        exact lv_icmp_ge X.1 X.2.1 hd ht (fun _ => K _ hk H locs ls hP hD hS hl) (fun q => absurd hc q)
      · rename_i hc
        obtain ⟨-, hk⟩ := am_nx_inv h
        exact lv_icmp_ge X.1 X.2.1 hd ht (fun q => absurd q hc) (fun _ => K _ hk H locs ls hP hD hS hl)
    | gt =>
      dsimp only at h
      split at h
      · rename_i hc
        obtain ⟨-, -, hk⟩ := am_jp_inv h
        exact lv_icmp_gt X.1 X.2.1 hd ht (fun _ => K _ hk H locs ls hP hD hS hl) (fun q => absurd hc q)
      · rename_i hc
        obtain ⟨-, hk⟩ := am_nx_inv h
        exact lv_icmp_gt X.1 X.2.1 hd ht (fun q => absurd q hc) (fun _ => K _ hk H locs ls hP hD hS hl)
    | le =>
      dsimp only at h
      split at h
      · rename_i hc
        obtain ⟨-, -, hk⟩ := am_jp_inv h
        exact lv_icmp_le X.1 X.2.1 hd ht (fun _ => K _ hk H locs ls hP hD hS hl) (fun q => absurd hc q)
      · rename_i hc
        obtain ⟨-, hk⟩ := am_nx_inv h
        exact lv_icmp_le X.1 X.2.1 hd ht (fun q => absurd q hc) (fun _ => K _ hk H locs ls hP hD hS hl)
  · cases h
theorem am_o_goto {len pc k j : Nat} {ad : Nat → Nat} {kt : am_S → Option am_Z} {L : List (Option am_V)} {S : List am_V} {w : List am_C} {z : am_Z} {off : Int} (X : am_X p s m args c cc own Ts D cl tys A nL ca nt) (hd : decode cc pc = .ok (.goto off, len)) (h : am_jp len pc L w k j kt off S = some z) (K : ∀ st' : am_S, kt st' = some z → am_W p l e R s m args below meth c Q D cl A ou ca nL ad st') : am_W p l e R s m args below meth c Q D cl A ou ca nL ad (pc, L, S, w, k, j) := by
  obtain ⟨rfl, ht, hk⟩ := am_jp_inv h
  exact fun H locs ls hP hD hS hl => lv_goto X.1 X.2.1 hd ht (K _ hk H locs ls hP hD hS hl)
theorem am_sw_inv {x : Int32} {ps : List (Int × Int)} {d : Int} {f : Int → Option am_Z} {z : am_Z} (h : am_sw x ps d f = some z) : (∃ q ∈ ps, x = Int32.ofInt q.1 ∧ f q.2 = some z ∧ ∃ pre suf, ps = pre ++ q :: suf ∧ ∀ r ∈ pre, ¬ x = Int32.ofInt r.1) ∨ ((∀ q ∈ ps, ¬ x = Int32.ofInt q.1) ∧ f d = some z) := by
  induction ps with
  | nil => exact Or.inr ⟨fun q hq => absurd hq List.not_mem_nil, h⟩
  | cons q r ih =>
    unfold am_sw at h
    split at h
    · rename_i hc
      exact Or.inl ⟨q, List.mem_cons_self, hc, h, [], r, rfl, fun r hr => absurd hr List.not_mem_nil⟩
    · rename_i hc
      rcases ih h with ⟨q', hm, h1, h2, pre, suf, he, hn⟩ | ⟨h1, h2⟩
      · refine Or.inl ⟨q', List.mem_cons_of_mem _ hm, h1, h2, q :: pre, suf, by rw [he]; rfl, fun r' hr' => ?_⟩
        rcases List.mem_cons.mp hr' with h3 | h3
        · rw [h3]; exact hc
        · exact hn r' h3
      · refine Or.inr ⟨fun q' hq' => ?_, h2⟩
        rcases List.mem_cons.mp hq' with h3 | h3
        · rw [h3]; exact hc
        · exact h1 q' h3
theorem am_r31_ok {x : Int} (h : am_r31 x = true) : (Int32.ofInt x).toInt = x := by
  simp only [am_r31, Bool.and_eq_true, decide_eq_true_eq] at h
  rw [Int32.toInt_ofInt]
  have hs : Int32.size = 4294967296 := rfl
  exact Int.bmod_eq_of_le (by omega) (by omega)
theorem am_tps_mem {lo : Int} {l : List Int} {q : Int × Int} (h : q ∈ am_tps lo l) : ∃ i : Nat, i < l.length ∧ q.1 = lo + i ∧ l[i]? = some q.2 := by
  induction l generalizing lo with
  | nil => cases h
  | cons o r ih =>
    rcases List.mem_cons.mp h with h1 | h1
    · subst h1
      exact ⟨0, by simp, by simp, rfl⟩
    · obtain ⟨i, h2, h3, h4⟩ := ih h1
      exact ⟨i + 1, by simpa using h2, by rw [h3]; omega, by simpa using h4⟩
theorem am_tps_all {lo : Int} {l : List Int} {i : Nat} {o : Int} (h : l[i]? = some o) : (lo + i, o) ∈ am_tps lo l := by
  induction l generalizing lo i with
  | nil => cases h
  | cons a r ih =>
    cases i with
    | zero =>
      have h1 : a = o := Option.some.inj h
      subst h1
      have h2 : lo + ((0 : Nat) : Int) = lo := by omega
      rw [h2]
      exact List.mem_cons_self
    | succ i =>
      have h1 := ih (lo := lo + 1) (i := i) (by simpa using h)
      have h2 : lo + 1 + (i : Int) = lo + ((i + 1 : Nat) : Int) := by omega
      rw [h2] at h1
      exact List.mem_cons_of_mem _ h1
theorem am_jw_inv {pc k j : Nat} {off : Int} {kt : am_S → Option am_Z} {L : List (Option am_V)} {S : List am_V} {w : List am_C} {z : am_Z} (h : am_jw pc L w k j kt off S = some z) : (pc : Int) + off = (am_tg pc off : Int) ∧ kt (am_tg pc off, L, S, w, k, j) = some z := by
  obtain ⟨h1, h2⟩ := am_bt h
  exact ⟨am_tg_ok h1, h2⟩
theorem am_o_tsw {len pc k j : Nat} {ad : Nat → Nat} {kt : am_S → Option am_Z} {L : List (Option am_V)} {S : List am_V} {w : List am_C} {z : am_Z} {d lo hi : Int} {offs : Array Int} (X : am_X p s m args c cc own Ts D cl tys A nL ca nt) (hd : decode cc pc = .ok (.tableswitch d lo hi offs, len)) (h : am_tsw pc L S w k j kt d lo hi offs.toList = some z) (K : ∀ st' : am_S, kt st' = some z → am_W p l e R s m args below meth c Q D cl A ou ca nL ad st') : am_W p l e R s m args below meth c Q D cl A ou ca nL ad (pc, L, S, w, k, j) := by
  unfold am_tsw at h
  split at h
  · rename_i x S'
    have hh := am_bt h
    clear h
    obtain ⟨h0, h⟩ := hh
    simp only [Bool.and_eq_true, beq_iff_eq] at h0
    obtain ⟨⟨h1, h2⟩, h3⟩ := h0
    have r1 := h1
    have r2 := h2
    simp only [am_r31, Bool.and_eq_true, decide_eq_true_eq] at r1 r2
    intro H locs ls hP hD hS hl
    rcases am_sw_inv h with ⟨q, hm, hx, hf, -⟩ | ⟨hn, hf⟩
    · obtain ⟨ht, hk⟩ := am_jw_inv hf
      obtain ⟨i, hi, e1, e2⟩ := am_tps_mem hm
      have hi2 : (i : Int) < offs.toList.length := by omega
      have e3 : x.toInt = lo + i := by
        rw [hx, e1]
        exact am_r31_ok (by simp only [am_r31, Bool.and_eq_true, decide_eq_true_eq]; omega)
      refine lv_tableIn X.1 X.2.1 hd (by omega) (by omega) ?_ ht (K _ hk H locs ls hP hD hS hl)
      rw [show (x.toInt - lo).toNat = i by omega, ← Array.getElem?_toList]
      exact e2
    · obtain ⟨ht, hk⟩ := am_jw_inv hf
      refine lv_tableOut X.1 X.2.1 hd ?_ ht (K _ hk H locs ls hP hD hS hl)
      by_cases hq : x.toInt < lo ∨ hi < x.toInt
      · exact hq
      · exfalso
        have hlt : (x.toInt - lo).toNat < offs.toList.length := by omega
        have hg := List.getElem?_eq_getElem hlt
        refine hn _ (am_tps_all (lo := lo) hg) ?_
        apply Int32.toInt_inj.mp
        rw [am_r31_ok (by simp only [am_r31, Bool.and_eq_true, decide_eq_true_eq]; omega)]
        omega
  · cases h
theorem am_lo_off {x : Int32} {ps : List (Int × Int)} {d : Int} (hr : ∀ q ∈ ps, am_r31 q.1 = true) : (∀ {q : Int × Int} {pre suf : List (Int × Int)}, ps = pre ++ q :: suf → (∀ r ∈ pre, ¬ x = Int32.ofInt r.1) → x = Int32.ofInt q.1 → Op.lookupswitch.offset ps d x.toInt = q.2) ∧ ((∀ q ∈ ps, ¬ x = Int32.ofInt q.1) → Op.lookupswitch.offset ps d x.toInt = d) := by
  induction ps with
  | nil =>
    refine ⟨fun {q pre suf} he => ?_, fun _ => by simp [Op.lookupswitch.offset]⟩
    simp at he
  | cons a r ih =>
    have ih := ih (fun q hq => hr q (List.mem_cons_of_mem _ hq))
    have ha := am_r31_ok (hr a List.mem_cons_self)
    constructor
    · intro q pre suf he hn hx
      cases pre with
      | nil =>
        simp only [List.nil_append, List.cons.injEq] at he
        obtain ⟨rfl, rfl⟩ := he
        rw [hx, ha]
        simp [Op.lookupswitch.offset]
      | cons b pre =>
        simp only [List.cons_append, List.cons.injEq] at he
        obtain ⟨rfl, he⟩ := he
        have hne : ¬ x = Int32.ofInt a.1 := hn a List.mem_cons_self
        have h1 := lv_osw (x := x) (k := Int32.ofInt a.1) (a := a.1) (o := a.2) (d := d) (r := r) hne ha
        rw [show a = (a.1, a.2) from rfl, h1]
        exact ih.1 he (fun r hr => hn r (List.mem_cons_of_mem _ hr)) hx
    · intro hn
      have hne : ¬ x = Int32.ofInt a.1 := hn a List.mem_cons_self
      have h1 := lv_osw (x := x) (k := Int32.ofInt a.1) (a := a.1) (o := a.2) (d := d) (r := r) hne ha
      rw [show a = (a.1, a.2) from rfl, h1]
      exact ih.2 (fun q hq => hn q (List.mem_cons_of_mem _ hq))
theorem am_o_lsw {len pc k j : Nat} {ad : Nat → Nat} {kt : am_S → Option am_Z} {L : List (Option am_V)} {S : List am_V} {w : List am_C} {z : am_Z} {d : Int} {ps : Array (Int × Int)} (X : am_X p s m args c cc own Ts D cl tys A nL ca nt) (hd : decode cc pc = .ok (.lookupswitch d ps, len)) (h : am_lsw pc L S w k j kt d ps.toList = some z) (K : ∀ st' : am_S, kt st' = some z → am_W p l e R s m args below meth c Q D cl A ou ca nL ad st') : am_W p l e R s m args below meth c Q D cl A ou ca nL ad (pc, L, S, w, k, j) := by
  unfold am_lsw at h
  split at h
  · rename_i x S'
    have hh := am_bt h
    clear h
    obtain ⟨h0, h⟩ := hh
    rw [Bool.and_eq_true] at h0
    have hr : ∀ q ∈ ps.toList, am_r31 q.1 = true := List.all_eq_true.mp h0.1
    intro H locs ls hP hD hS hl
    rcases am_sw_inv h with ⟨q, hm, hx, hf, pre, suf, he, hn⟩ | ⟨hn, hf⟩
    · obtain ⟨ht, hk⟩ := am_jw_inv hf
      exact lv_lookup X.1 X.2.1 hd h0.2 ((am_lo_off hr).1 he hn hx) ht (K _ hk H locs ls hP hD hS hl)
    · obtain ⟨ht, hk⟩ := am_jw_inv hf
      exact lv_lookup X.1 X.2.1 hd h0.2 ((am_lo_off hr).2 hn) ht (K _ hk H locs ls hP hD hS hl)
  · cases h
/-- what a field's pool entry is -/
def am_FK (s : State) (args : Array Value) (meth : Method) (own : String) (Ts : List Jvm.Cond) (cl : List vw_C) (fty : Nat → Nat → FieldType) (index ci fi mode : Nat) : Prop :=
  ∃ (C : String) (F : u_T) (N : Nat) (ty0 : Nat → FieldType), cl[ci]? = some (C, F, N) ∧ fi < N ∧ (∀ w ∈ u_ws C F N, w ∈ Ts) ∧ (∀ k, k < N → parseFieldDescriptor (F k).2.2.1 = some (ty0 k)) ∧ (∀ a, a < N → ∀ b, b < N → a ≠ b → (F a).2.1 ≠ (F b).2.1) ∧ ty0 fi = fty ci fi ∧
    (¬ (mode = 1 ∨ mode = 4) → (Jvm.Cond.fieldLink own index (F fi).1 (F fi).2.1 (F fi).2.2.1).before args s = true) ∧ (mode = 1 ∨ mode = 4 → ∃ host, (Jvm.Cond.fieldLinkNest own index (F fi).1 (F fi).2.1 (F fi).2.2.1 host).before args s = true) ∧
    (mode = 0 ∨ mode = 1 → (F fi).2.2.2 = false) ∧ (mode = 2 → (F fi).2.2.2 = true ∧ meth.name = "<init>" ∧ (F fi).1 = own)
theorem am_o_gtf {len pc k j : Nat} {ad : Nat → Nat} {kt : am_S → Option am_Z} {L : List (Option am_V)} {S : List am_V} {w : List am_C} {z : am_Z} {x : Nat} {T : am_T} (X : am_X p s m args c cc own Ts D cl tys A nL ca nt) (hF : ∀ index ci fi mode, T.2.1 index = some (ci, fi, mode) → am_FK s args meth own Ts cl T.2.2.1 index ci fi mode) (hd : decode cc pc = .ok (.getfield x, len)) (h : am_gtf T len pc L S w k j kt x = some z) (K : ∀ st' : am_S, kt st' = some z → am_W p l e R s m args below meth c Q D cl A ou ca nL ad st') : am_W p l e R s m args below meth c Q D cl A ou ca nL ad (pc, L, S, w, k, j) := by
  unfold am_gtf at h
  split at h
  · rename_i q S'
    cases hw : w[q]? with
    | none => rw [hw] at h; cases h
    | some y =>
      cases hT : T.2.1 x with
      | none => rw [hw, hT] at h; rcases y with y | y <;> cases h
      | some u =>
        obtain ⟨cj, fi, mode⟩ := u
        rw [hw, hT] at h
        rcases y with y | ⟨ci, fs⟩
        · cases h
        · dsimp only at h
          have hh := am_bt h
          clear h
          obtain ⟨h0, h⟩ := hh
          rw [Bool.and_eq_true] at h0
          have hci : ci = cj := by simpa using h0.1
          subst hci
          cases hv : fs[fi]? with
          | none => rw [hv] at h; cases h
          | some v =>
            rw [hv] at h
            obtain ⟨rfl, hk⟩ := am_nx_inv h
            obtain ⟨C, F, N, ty0, hc, hfi, hin, hty, hnm, -, hl0, hl1, -, -⟩ := hF x ci fi mode hT
            have hv' : (fs.map (am_v ad ou))[fi]? = some (am_v ad ou v) := by rw [List.getElem?_map, hv]; rfl
            intro H locs ls hP hD hS hl
            by_cases hm : mode = 1 ∨ mode = 4
            · obtain ⟨host, hlk⟩ := hl1 hm
              exact va_getN X.1 X.2.1 X.2.2.2.2.1 hin X.2.2.2.1 X.2.2.2.2.2.1 hP q (am_w_get hw) hc fi hfi hlk (fun _ h9 => h9) hv' hd (K _ hk H locs ls hP hD hS hl)
            · exact va_get X.1 X.2.1 X.2.2.2.2.1 hin X.2.2.2.1 X.2.2.2.2.2.1 hP q (am_w_get hw) hc fi hfi (hl0 hm) (fun _ h9 => h9) hv' hd (K _ hk H locs ls hP hD hS hl)
  · cases h
theorem am_o_ptf {len pc k j : Nat} {ad : Nat → Nat} {kt : am_S → Option am_Z} {L : List (Option am_V)} {S : List am_V} {w : List am_C} {z : am_Z} {x : Nat} {T : am_T} (X : am_X p s m args c cc own Ts D cl tys A nL ca nt) (hF : ∀ index ci fi mode, T.2.1 index = some (ci, fi, mode) → am_FK s args meth own Ts cl T.2.2.1 index ci fi mode) (hd : decode cc pc = .ok (.putfield x, len)) (h : am_ptf T len pc L S w k j kt x = some z) (K : ∀ st' : am_S, kt st' = some z → am_W p l e R s m args below meth c Q D cl A ou ca nL ad st') : am_W p l e R s m args below meth c Q D cl A ou ca nL ad (pc, L, S, w, k, j) := by
  unfold am_ptf at h
  split at h
  · rename_i v q S'
    cases hw : w[q]? with
    | none => rw [hw] at h; cases h
    | some y =>
      cases hT : T.2.1 x with
      | none => rw [hw, hT] at h; rcases y with y | y <;> cases h
      | some u =>
        obtain ⟨cj, fi, mode⟩ := u
        rw [hw, hT] at h
        rcases y with y | ⟨ci, fs⟩
        · cases h
        · dsimp only at h
          have hh := am_bt h
          clear h
          obtain ⟨h0, h⟩ := hh
          simp only [Bool.and_eq_true] at h0
          obtain ⟨⟨h1, h2⟩, h3⟩ := h0
          have hh := am_fic_inv h
          clear h
          obtain ⟨h4, h⟩ := hh
          have hci : ci = cj := by simpa using h1
          subst hci
          have hlt : fi < fs.length := Nat.le_of_ble_eq_true h3
          unfold am_sx at h
          rw [if_pos rfl] at h
          obtain ⟨rfl, hk⟩ := am_nx_inv h
          obtain ⟨C, F, N, ty0, hc, hfi, hin, hty, hnm, hft, hl0, hl1, hm0, hm2⟩ := hF x ci fi mode hT
          obtain ⟨f1, f2⟩ := am_fit_ok ad ou h4
          have hlt' : fi < (fs.map (am_v ad ou)).length := by rw [List.length_map]; exact hlt
          have hset : am_w ad ou ca (w.set q (.inr (ci, fs.set fi v))) = (am_w ad ou ca w).set q (ad q, .inr (ci, (fs.map (am_v ad ou)).set fi (am_v ad ou v))) := by
            rw [am_w_set]
            simp only [am_e, List.map_set]
          have hpd : parseFieldDescriptor (F fi).2.2.1 = some (T.2.2.1 ci fi) := by rw [← hft]; exact hty fi hfi
          intro H locs ls hP hD hS hl
          have hmode : mode = 0 ∨ mode = 1 ∨ mode = 2 := by
            have := Nat.le_of_ble_eq_true h2
            omega
          rcases hmode with rfl | rfl | rfl
          · exact va_put X.1 X.2.1 X.2.2.2.2.1 hin ty0 hty hnm X.2.2.2.1 X.2.2.2.2.2.1 hP hD hS q (am_w_get hw) hc fi hfi (hl0 (by decide)) (fun _ h9 => h9) (hm0 (Or.inl rfl)) hpd f1 f2 hlt' hd (fun H1 locs1 hP1 hD1 hS1 => K _ hk H1 locs1 ls (by rw [hset]; exact hP1) (by rw [hset]; exact hD1) hS1 hl)
          · obtain ⟨host, hlk⟩ := hl1 (Or.inl rfl)
            exact va_putN X.1 X.2.1 X.2.2.2.2.1 hin ty0 hty hnm X.2.2.2.1 X.2.2.2.2.2.1 hP hD hS q (am_w_get hw) hc fi hfi hlk (fun _ h9 => h9) (hm0 (Or.inr rfl)) hpd f1 f2 hlt' hd (fun H1 locs1 hP1 hD1 hS1 => K _ hk H1 locs1 ls (by rw [hset]; exact hP1) (by rw [hset]; exact hD1) hS1 hl)
          · obtain ⟨g1, g2, g3⟩ := hm2 rfl
            exact va_putF X.1 X.2.1 X.2.2.2.2.1 hin ty0 hty hnm X.2.2.2.1 X.2.2.2.2.2.1 hP hD hS q (am_w_get hw) hc fi hfi (hl0 (by decide)) (fun _ h9 => h9) g1 g2 g3 hpd f1 f2 hlt' hd (fun H1 locs1 hP1 hD1 hS1 => K _ hk H1 locs1 ls (by rw [hset]; exact hP1) (by rw [hset]; exact hD1) hS1 hl)
  · cases h
theorem am_o_arli {len pc k j : Nat} {ad : Nat → Nat} {kt : am_S → Option am_Z} {L : List (Option am_V)} {S : List am_V} {w : List am_C} {z : am_Z} {T : am_T} (X : am_X p s m args c cc own Ts D cl tys A nL ca nt) (hnt : am_nt T = nt) (hO : ∀ o t n f, T.2.2.2.2.2.2.1 o = some (t, n, f) → va_T (am_ty t) (ou o) n (fun j => .int (f j)) A s s.heap) (hd : decode cc pc = .ok (.iaload, len)) (h : am_arl T len pc L S w k j kt 0 = some z) (K : ∀ st' : am_S, kt st' = some z → am_W p l e R s m args below meth c Q D cl A ou ca nL ad st') : am_W p l e R s m args below meth c Q D cl A ou ca nL ad (pc, L, S, w, k, j) := by
  unfold am_arl at h
  split at h
  · rename_i i q S'
    cases hw : w[q]? with
    | none => rw [hw] at h; cases h
    | some y =>
      rw [hw] at h
      rcases y with ⟨t, n, f⟩ | y
      · dsimp only at h
        have hh := am_bt h
        clear h
        obtain ⟨h0, h⟩ := hh
        rw [Bool.and_eq_true, hnt] at h0
        have ht : t = 0 := by simpa using h0.1
        subst ht
        have hh := am_chk_inv h
        clear h
        obtain ⟨h1, h⟩ := hh
        obtain ⟨rfl, hk⟩ := am_nx_inv h
        exact fun H locs ls hP hD hS hl => va_iald X.1 X.2.1 X.2.2.2.2.2.1 hP q 0 (am_w_get hw) (X.2.2.2.2.2.2.2.1 0 (Nat.le_of_ble_eq_true h0.2)) (am_inb_ok h1) hd (K _ hk H locs ls hP hD hS hl)
      · cases h
  · rename_i i o S'
    cases hT : T.2.2.2.2.2.2.1 o with
    | none => rw [hT] at h; cases h
    | some y =>
      rw [hT] at h
      obtain ⟨t, n, f⟩ := y
      dsimp only at h
      have hh := am_bt h
      clear h
      obtain ⟨h0, h⟩ := hh
      have hh := am_chk_inv h
      clear h
      obtain ⟨h1, h⟩ := hh
      obtain ⟨rfl, hk⟩ := am_nx_inv h
      have g1 := hO o t n f hT
      have ht : t = 0 := by simpa using h0
      subst ht
      exact fun H locs ls hP hD hS hl => va_ti X.1 X.2.1 g1 hS (am_inb_ok h1) rfl hd (K _ hk H locs ls hP hD hS hl)
  · cases h
theorem am_o_arlc {len pc k j : Nat} {ad : Nat → Nat} {kt : am_S → Option am_Z} {L : List (Option am_V)} {S : List am_V} {w : List am_C} {z : am_Z} {T : am_T} (X : am_X p s m args c cc own Ts D cl tys A nL ca nt) (hnt : am_nt T = nt) (hO : ∀ o t n f, T.2.2.2.2.2.2.1 o = some (t, n, f) → va_T (am_ty t) (ou o) n (fun j => .int (f j)) A s s.heap) (hd : decode cc pc = .ok (.caload, len)) (h : am_arl T len pc L S w k j kt 1 = some z) (K : ∀ st' : am_S, kt st' = some z → am_W p l e R s m args below meth c Q D cl A ou ca nL ad st') : am_W p l e R s m args below meth c Q D cl A ou ca nL ad (pc, L, S, w, k, j) := by
  unfold am_arl at h
  split at h
  · rename_i i q S'
    cases hw : w[q]? with
    | none => rw [hw] at h; cases h
    | some y =>
      rw [hw] at h
      rcases y with ⟨t, n, f⟩ | y
      · dsimp only at h
        have hh := am_bt h
        clear h
        obtain ⟨h0, h⟩ := hh
        rw [Bool.and_eq_true, hnt] at h0
        have ht : t = 1 := by simpa using h0.1
        subst ht
        have hh := am_chk_inv h
        clear h
        obtain ⟨h1, h⟩ := hh
        obtain ⟨rfl, hk⟩ := am_nx_inv h
        exact fun H locs ls hP hD hS hl => va_cald X.1 X.2.1 X.2.2.2.2.2.1 hP q 1 (am_w_get hw) (X.2.2.2.2.2.2.2.1 1 (Nat.le_of_ble_eq_true h0.2)) (am_inb_ok h1) hd (K _ hk H locs ls hP hD hS hl)
      · cases h
  · rename_i i o S'
    cases hT : T.2.2.2.2.2.2.1 o with
    | none => rw [hT] at h; cases h
    | some y =>
      rw [hT] at h
      obtain ⟨t, n, f⟩ := y
      dsimp only at h
      have hh := am_bt h
      clear h
      obtain ⟨h0, h⟩ := hh
      have hh := am_chk_inv h
      clear h
      obtain ⟨h1, h⟩ := hh
      obtain ⟨rfl, hk⟩ := am_nx_inv h
      have g1 := hO o t n f hT
      have ht : t = 1 := by simpa using h0
      subst ht
      exact fun H locs ls hP hD hS hl => va_tc X.1 X.2.1 g1 hS (am_inb_ok h1) rfl hd (K _ hk H locs ls hP hD hS hl)
  · cases h
theorem am_o_arlz {len pc k j : Nat} {ad : Nat → Nat} {kt : am_S → Option am_Z} {L : List (Option am_V)} {S : List am_V} {w : List am_C} {z : am_Z} {T : am_T} (X : am_X p s m args c cc own Ts D cl tys A nL ca nt) (hnt : am_nt T = nt) (hO : ∀ o t n f, T.2.2.2.2.2.2.1 o = some (t, n, f) → va_T (am_ty t) (ou o) n (fun j => .int (f j)) A s s.heap) (hd : decode cc pc = .ok (.baload, len)) (h : am_arl T len pc L S w k j kt 2 = some z) (K : ∀ st' : am_S, kt st' = some z → am_W p l e R s m args below meth c Q D cl A ou ca nL ad st') : am_W p l e R s m args below meth c Q D cl A ou ca nL ad (pc, L, S, w, k, j) := by
  unfold am_arl at h
  split at h
  · rename_i i q S'
    cases hw : w[q]? with
    | none => rw [hw] at h; cases h
    | some y =>
      rw [hw] at h
      rcases y with ⟨t, n, f⟩ | y
      · dsimp only at h
        have hh := am_bt h
        clear h
        obtain ⟨h0, h⟩ := hh
        rw [Bool.and_eq_true, hnt] at h0
        have ht : t = 2 := by simpa using h0.1
        subst ht
        have hh := am_chk_inv h
        clear h
        obtain ⟨h1, h⟩ := hh
        obtain ⟨rfl, hk⟩ := am_nx_inv h
        exact fun H locs ls hP hD hS hl => va_zald X.1 X.2.1 X.2.2.2.2.2.1 hP q 2 (am_w_get hw) (X.2.2.2.2.2.2.2.1 2 (Nat.le_of_ble_eq_true h0.2)) (am_inb_ok h1) hd (K _ hk H locs ls hP hD hS hl)
      · cases h
  · rename_i i o S'
    cases hT : T.2.2.2.2.2.2.1 o with
    | none => rw [hT] at h; cases h
    | some y =>
      rw [hT] at h
      obtain ⟨t, n, f⟩ := y
      dsimp only at h
      have hh := am_bt h
      clear h
      obtain ⟨h0, h⟩ := hh
      have hh := am_chk_inv h
      clear h
      obtain ⟨h1, h⟩ := hh
      obtain ⟨rfl, hk⟩ := am_nx_inv h
      have g1 := hO o t n f hT
      have ht : t = 2 ∨ t = 3 := by simpa using h0
      rcases ht with rfl | rfl
      · exact fun H locs ls hP hD hS hl => va_tz X.1 X.2.1 g1 hS (am_inb_ok h1) rfl hd (K _ hk H locs ls hP hD hS hl)
      · exact fun H locs ls hP hD hS hl => va_tb X.1 X.2.1 g1 hS (am_inb_ok h1) rfl hd (K _ hk H locs ls hP hD hS hl)
  · cases h
theorem am_o_arsi {len pc k j : Nat} {ad : Nat → Nat} {kt : am_S → Option am_Z} {L : List (Option am_V)} {S : List am_V} {w : List am_C} {z : am_Z} {T : am_T} (X : am_X p s m args c cc own Ts D cl tys A nL ca nt) (hnt : am_nt T = nt) (hd : decode cc pc = .ok (.iastore, len)) (h : am_ars T len pc L S w k j kt 0 = some z) (K : ∀ st' : am_S, kt st' = some z → am_W p l e R s m args below meth c Q D cl A ou ca nL ad st') : am_W p l e R s m args below meth c Q D cl A ou ca nL ad (pc, L, S, w, k, j) := by
  unfold am_ars at h
  split at h
  · rename_i x i q S'
    cases hw : w[q]? with
    | none => rw [hw] at h; cases h
    | some y =>
      rw [hw] at h
      rcases y with ⟨t, n, f⟩ | y
      · dsimp only at h
        have hh := am_bt h
        clear h
        obtain ⟨h0, h⟩ := hh
        rw [Bool.and_eq_true, hnt] at h0
        have ht : t = 0 := by simpa using h0.1
        subst ht
        have hh := am_chk_inv h
        clear h
        obtain ⟨h1, h⟩ := hh
        unfold am_sx at h
        rw [if_pos rfl] at h
        obtain ⟨rfl, hk⟩ := am_nx_inv h
        exact fun H locs ls hP hD hS hl => va_iast X.1 X.2.1 X.2.2.2.2.2.1 hP hD hS q 0 (am_w_get hw) (X.2.2.2.2.2.2.2.1 0 (Nat.le_of_ble_eq_true h0.2)) (am_inb_ok h1) hd (fun H1 locs1 hP1 hD1 hS1 => K _ hk H1 locs1 ls (by dsimp only; rw [am_w_set]; exact hP1) (by dsimp only; rw [am_w_set]; exact hD1) hS1 hl)
      · cases h
  · cases h
theorem am_o_arsc {len pc k j : Nat} {ad : Nat → Nat} {kt : am_S → Option am_Z} {L : List (Option am_V)} {S : List am_V} {w : List am_C} {z : am_Z} {T : am_T} (X : am_X p s m args c cc own Ts D cl tys A nL ca nt) (hnt : am_nt T = nt) (hd : decode cc pc = .ok (.castore, len)) (h : am_ars T len pc L S w k j kt 1 = some z) (K : ∀ st' : am_S, kt st' = some z → am_W p l e R s m args below meth c Q D cl A ou ca nL ad st') : am_W p l e R s m args below meth c Q D cl A ou ca nL ad (pc, L, S, w, k, j) := by
  unfold am_ars at h
  split at h
  · rename_i x i q S'
    cases hw : w[q]? with
    | none => rw [hw] at h; cases h
    | some y =>
      rw [hw] at h
      rcases y with ⟨t, n, f⟩ | y
      · dsimp only at h
        have hh := am_bt h
        clear h
        obtain ⟨h0, h⟩ := hh
        rw [Bool.and_eq_true, hnt] at h0
        have ht : t = 1 := by simpa using h0.1
        subst ht
        have hh := am_chk_inv h
        clear h
        obtain ⟨h1, h⟩ := hh
        unfold am_sx at h
        rw [if_pos rfl] at h
        obtain ⟨rfl, hk⟩ := am_nx_inv h
        exact fun H locs ls hP hD hS hl => va_cast X.1 X.2.1 X.2.2.2.2.2.1 hP hD hS q 1 (am_w_get hw) (X.2.2.2.2.2.2.2.1 1 (Nat.le_of_ble_eq_true h0.2)) (am_inb_ok h1) hd (fun H1 locs1 hP1 hD1 hS1 => K _ hk H1 locs1 ls (by dsimp only; rw [am_w_set]; exact hP1) (by dsimp only; rw [am_w_set]; exact hD1) hS1 hl)
      · cases h
  · cases h
theorem am_o_arsz {len pc k j : Nat} {ad : Nat → Nat} {kt : am_S → Option am_Z} {L : List (Option am_V)} {S : List am_V} {w : List am_C} {z : am_Z} {T : am_T} (X : am_X p s m args c cc own Ts D cl tys A nL ca nt) (hnt : am_nt T = nt) (hd : decode cc pc = .ok (.bastore, len)) (h : am_ars T len pc L S w k j kt 2 = some z) (K : ∀ st' : am_S, kt st' = some z → am_W p l e R s m args below meth c Q D cl A ou ca nL ad st') : am_W p l e R s m args below meth c Q D cl A ou ca nL ad (pc, L, S, w, k, j) := by
  unfold am_ars at h
  split at h
  · rename_i x i q S'
    cases hw : w[q]? with
    | none => rw [hw] at h; cases h
    | some y =>
      rw [hw] at h
      rcases y with ⟨t, n, f⟩ | y
      · dsimp only at h
        have hh := am_bt h
        clear h
        obtain ⟨h0, h⟩ := hh
        rw [Bool.and_eq_true, hnt] at h0
        have ht : t = 2 := by simpa using h0.1
        subst ht
        have hh := am_chk_inv h
        clear h
        obtain ⟨h1, h⟩ := hh
        unfold am_sx at h
        rw [if_pos rfl] at h
        obtain ⟨rfl, hk⟩ := am_nx_inv h
        exact fun H locs ls hP hD hS hl => va_zast X.1 X.2.1 X.2.2.2.2.2.1 hP hD hS q 2 (am_w_get hw) (X.2.2.2.2.2.2.2.1 2 (Nat.le_of_ble_eq_true h0.2)) (am_inb_ok h1) hd (fun H1 locs1 hP1 hD1 hS1 => K _ hk H1 locs1 ls (by dsimp only; rw [am_w_set]; exact hP1) (by dsimp only; rw [am_w_set]; exact hD1) hS1 hl)
      · cases h
  · cases h
theorem am_o_aln {len pc k j : Nat} {ad : Nat → Nat} {kt : am_S → Option am_Z} {L : List (Option am_V)} {S : List am_V} {w : List am_C} {z : am_Z} {T : am_T} (X : am_X p s m args c cc own Ts D cl tys A nL ca nt) (hnt : am_nt T = nt) (hO : ∀ o t n f, T.2.2.2.2.2.2.1 o = some (t, n, f) → va_T (am_ty t) (ou o) n (fun j => .int (f j)) A s s.heap) (hd : decode cc pc = .ok (.arraylength, len)) (h : am_aln T len pc L S w k j kt = some z) (K : ∀ st' : am_S, kt st' = some z → am_W p l e R s m args below meth c Q D cl A ou ca nL ad st') : am_W p l e R s m args below meth c Q D cl A ou ca nL ad (pc, L, S, w, k, j) := by
  unfold am_aln at h
  split at h
  · rename_i q S'
    cases hw : w[q]? with
    | none => rw [hw] at h; cases h
    | some y =>
      rw [hw] at h
      rcases y with ⟨t, n, f⟩ | y
      · dsimp only at h
        have hh := am_bt h
        clear h
        obtain ⟨h0, h⟩ := hh
        rw [hnt] at h0
        obtain ⟨rfl, hk⟩ := am_nx_inv h
        exact fun H locs ls hP hD hS hl => va_alen X.1 X.2.1 X.2.2.2.2.2.1 hP q t (am_w_get hw) (X.2.2.2.2.2.2.2.1 t (Nat.le_of_ble_eq_true h0)) rfl hd (K _ hk H locs ls hP hD hS hl)
      · cases h
  · rename_i o S'
    cases hT : T.2.2.2.2.2.2.1 o with
    | none => rw [hT] at h; cases h
    | some y =>
      rw [hT] at h
      obtain ⟨t, n, f⟩ := y
      obtain ⟨rfl, hk⟩ := am_nx_inv h
      exact fun H locs ls hP hD hS hl => va_tlen X.1 X.2.1 (hO o t n f hT) hS rfl hd (K _ hk H locs ls hP hD hS hl)
  · cases h
/-! other addresses for new places -/
theorem am_v_ag {n : Nat} {ad ad' ou : Nat → Nat} {v : am_V} (h : ∀ i, i < n → ad' i = ad i) (hv : am_lo n v = true) : am_v ad' ou v = am_v ad ou v := by
  rcases v with x | q | q
  · rfl
  · have h1 : q < n := Nat.le_of_ble_eq_true hv
    show Value.ref (ad' q) = Value.ref (ad q)
    rw [h q h1]
  · cases q <;> rfl
theorem am_e_ag {n : Nat} {ad ad' ou : Nat → Nat} {ca : Nat → ClassId} {x : am_C} (h : ∀ i, i < n → ad' i = ad i) (hx : am_loC n x = true) : am_e ad' ou ca x = am_e ad ou ca x := by
  rcases x with ⟨t, m, f⟩ | ⟨c, fs⟩
  · rfl
  · have h1 : fs.map (am_v ad' ou) = fs.map (am_v ad ou) := List.map_congr_left (fun v hv => am_v_ag h (List.all_eq_true.mp hx v hv))
    simp only [am_e, h1]
theorem am_w_ag {n : Nat} {ad ad' ou : Nat → Nat} {ca : Nat → ClassId} {w : List am_C} (h : ∀ i, i < n → ad' i = ad i) (hn : w.length ≤ n) (hw : w.all (am_loC n) = true) : am_w ad' ou ca w = am_w ad ou ca w := by
  apply List.ext_getElem?
  intro i
  cases hi : w[i]? with
  | none => simp [am_w, List.getElem?_mapIdx, hi]
  | some x =>
    rw [am_w_get hi, am_w_get hi]
    have h1 : i < w.length := (List.getElem?_eq_some_iff.mp hi).1
    rw [h i (by omega), am_e_ag h (List.all_eq_true.mp hw x (List.mem_of_getElem? hi))]
theorem am_s_ag {n : Nat} {ad ad' ou : Nat → Nat} {S : List am_V} (h : ∀ i, i < n → ad' i = ad i) (hS : S.all (am_lo n) = true) : S.map (am_v ad' ou) = S.map (am_v ad ou) := List.map_congr_left (fun v hv => am_v_ag h (List.all_eq_true.mp hS v hv))
theorem am_l_ag {n : Nat} {ad ad' ou : Nat → Nat} {L : List (Option am_V)} {ls : Array Slot} {nL : Nat} (h : ∀ i, i < n → ad' i = ad i) (hL : L.all (am_loO n) = true) (hl : lv_has ls nL (am_l ad ou L)) : lv_has ls nL (am_l ad' ou L) := by
  refine ⟨hl.1, hl.2.1, ?_⟩
  rintro ⟨j, v⟩ hq
  obtain ⟨u, h1, rfl⟩ := am_l_mem.mp hq
  have h2 := List.all_eq_true.mp hL _ (List.mem_of_getElem? h1)
  rw [am_v_ag h h2]
  exact h1 |> am_l_at hl
theorem am_low_inv {n : Nat} {L : List (Option am_V)} {S : List am_V} {w : List am_C} (h : am_low n L S w = true) : L.all (am_loO n) = true ∧ S.all (am_lo n) = true ∧ w.all (am_loC n) = true := by
  simp only [am_low, Bool.and_eq_true] at h
  exact ⟨h.1.1, h.1.2, h.2⟩
/-- what a class's pool entry is, for 'new' -/
def am_NK (s : State) (args : Array Value) (own : String) (Ts : List Jvm.Cond) (cl : List vw_C) (index ci : Nat) (fs : List am_V) : Prop :=
  ∃ (C : String) (F : u_T) (N : Nat) (ty0 : Nat → FieldType), cl[ci]? = some (C, F, N) ∧ (∀ w ∈ u_ws C F N, w ∈ Ts) ∧ (∀ k, k < N → parseFieldDescriptor (F k).2.2.1 = some (ty0 k)) ∧ (Jvm.Cond.classLink own index C).before args s = true ∧ (Jvm.Cond.instantiable C N).before args s = true ∧ (Jvm.Cond.initialized C).before args s = true ∧ fs.length = N ∧ ∀ (ad ou : Nat → Nat) (j : Nat), j < N → defaultValue (ty0 j) = vp_V (fs.map (am_v ad ou)) j
theorem am_o_new {len pc k j : Nat} {ad : Nat → Nat} {kt : am_S → Option am_Z} {L : List (Option am_V)} {S : List am_V} {w : List am_C} {z : am_Z} {x : Nat} {T : am_T} (X : am_X p s m args c cc own Ts D cl tys A nL ca nt) (hN : ∀ index ci fs, T.2.2.2.1 index = some (ci, fs) → am_NK s args own Ts cl index ci fs) (hmc : am_mc T ≤ R.cells) (hms : am_ms T ≤ R.slots) (hd : decode cc pc = .ok (.new x, len)) (h : am_new T len pc L S w k j kt x = some z) (K : ∀ st' : am_S, kt st' = some z → ∀ ad' : Nat → Nat, (∀ i, i < am_n0 T → ad' i = ad i) → am_W p l e R s m args below meth c Q D cl A ou ca nL ad' st') : am_W p l e R s m args below meth c Q D cl A ou ca nL ad (pc, L, S, w, k, j) := by
  unfold am_new at h
  cases hT : T.2.2.2.1 x with
  | none => rw [hT] at h; cases h
  | some y =>
    obtain ⟨ci, fs⟩ := y
    rw [hT] at h
    dsimp only at h
    have hh := am_bt h
    clear h
    obtain ⟨h0, h⟩ := hh
    simp only [Bool.and_eq_true] at h0
    obtain ⟨⟨⟨⟨h1, h2⟩, h3⟩, h4⟩, h5⟩ := h0
    have h3 := Nat.le_of_ble_eq_true h3
    have h4 := Nat.le_of_ble_eq_true h4
    have h5 := Nat.le_of_ble_eq_true h5
    obtain ⟨g1, g2, g3⟩ := am_low_inv h1
    obtain ⟨rfl, hk⟩ := am_nx_inv h
    obtain ⟨C, F, N, ty0, hc, hin, hty, hcl, hins, hini, hlen, hdf⟩ := hN x ci fs hT
    subst hlen
    intro H locs ls hP hD hS hl
    refine va_new (ci := ci) (fs := fs.map (am_v ad ou)) X.1 X.2.1 X.2.2.2.2.1 hin ty0 hty X.2.2.2.1 hcl hins hini X.2.2.2.2.2.1 hP hD hS X.2.2.2.2.2.2.1 hc (hdf ad ou) (Nat.le_trans h4 hmc) (Nat.le_trans h5 hms) hd (fun q H1 hP1 hD1 hS1 => ?_)
    have ha : ∀ i, i < w.length → va_up ad w.length q i = ad i := fun i hi => by
      show (if i = w.length then q else ad i) = ad i
      rw [if_neg (by omega)]
    have hq : va_up ad w.length q w.length = q := by
      show (if w.length = w.length then q else ad w.length) = q
      rw [if_pos rfl]
    have hw : am_w (va_up ad w.length q) ou ca (w ++ [.inr (ci, fs)]) = am_w ad ou ca w ++ [(q, .inr (ci, fs.map (am_v ad ou)))] := by
      rw [am_w_push, am_w_ag ha (Nat.le_refl _) g3, hq]
      have h6 : am_e (va_up ad w.length q) ou ca (.inr (ci, fs)) = am_e ad ou ca (.inr (ci, fs)) := am_e_ag ha h2
      rw [h6]
      rfl
    have R1 := K _ hk (va_up ad w.length q) (fun i hi => ha i (by omega)) H1 locs ls (by dsimp only; rw [hw]; exact hP1) (by dsimp only; rw [hw]; exact hD1) hS1 (am_l_ag ha g1 hl)
    have h7 : (((.inr (.inl w.length) : am_V) :: S).map (am_v (va_up ad w.length q) ou)) = .ref q :: S.map (am_v ad ou) := by
      rw [List.map_cons, am_s_ag ha g2]
      show Value.ref (va_up ad w.length q w.length) :: _ = _
      rw [hq]
    dsimp only at R1
    rw [h7] at R1
    exact R1
theorem am_tyn_ok {a : ArrayType} {t : Nat} (h : am_tyn a = some t) : Op.newarray.typeOf a = am_ty t ∧ (∀ (cA : ClassId) (N : Nat), vp_cell cA (N, am_c t (fun _ => 0)) = arrV cA N (fun _ => defaultValue (am_ty t))) ∧ componentBytes (am_ty t) ≤ 8 ∧ (∀ C, ¬ am_ty t = .object C) := by
  cases a <;> first | (cases h; done) | (cases h; exact ⟨rfl, fun _ _ => rfl, by decide, fun C hC => by cases hC⟩)
theorem am_ra {s : State} {cA cB : ClassId} {ty : FieldType} (hC : ∀ C, ¬ ty = .object C) (h1 : va_RA s cA ty) (h2 : va_RA s cB ty) : cA = cB := by
  cases ty with
  | object C => exact absurd rfl (hC C)
  | _ => exact Option.some.inj (h1.symm.trans h2)
theorem am_o_nwa {len pc k j : Nat} {ad : Nat → Nat} {kt : am_S → Option am_Z} {L : List (Option am_V)} {S : List am_V} {w : List am_C} {z : am_Z} {a : ArrayType} {T : am_T} (X : am_X p s m args c cc own Ts D cl tys A nL ca nt) (hnt : am_nt T = nt) (hmc : am_mc T ≤ R.cells) (hms : am_ms T ≤ R.slots) (hd : decode cc pc = .ok (.newarray a, len)) (h : am_nwa T len pc L S w k j kt a = some z) (K : ∀ st' : am_S, kt st' = some z → ∀ ad' : Nat → Nat, (∀ i, i < am_n0 T → ad' i = ad i) → am_W p l e R s m args below meth c Q D cl A ou ca nL ad' st') : am_W p l e R s m args below meth c Q D cl A ou ca nL ad (pc, L, S, w, k, j) := by
  unfold am_nwa at h
  cases ht : am_tyn a with
  | none => rw [ht] at h; cases h
  | some t =>
    rw [ht] at h
    split at h
    · rename_i t0 n S' e0
      cases e0
      have hh := am_bt h
      clear h
      obtain ⟨h0, h⟩ := hh
      simp only [Bool.and_eq_true] at h0
      obtain ⟨h1, h2, h3, h4, h5, h6, h7⟩ := h0
      have h1 : ¬ n < 0 := by simpa using h1
      have h2 := Nat.le_of_ble_eq_true h2
      have h3 : t < nt := by rw [← hnt]; exact Nat.le_of_ble_eq_true h3
      have h5 := Nat.le_of_ble_eq_true h5
      have h6 := Nat.le_of_ble_eq_true h6
      have h7 := Nat.le_of_ble_eq_true h7
      obtain ⟨g1, g2, g3⟩ := am_low_inv h4
      obtain ⟨rfl, hk⟩ := am_nx_inv h
      obtain ⟨e1, e2, e3, e4⟩ := am_tyn_ok ht
      have hbt : n.toNatClampNeg * componentBytes (am_ty t) ≤ 536870912 := Nat.le_trans (Nat.mul_le_mul_left _ e3) h2
      intro H locs ls hP hD hS hl
      refine va_newa (ty := am_ty t) (a0 := (n.toNatClampNeg, am_c t (fun _ => 0))) X.1 X.2.1 (by rw [e1]; exact X.2.2.2.2.2.2.2.2.1 t h3) e1 X.2.2.2.2.2.1 hP hD hS X.2.2.2.2.2.2.1 (fun cA => e2 cA _) h1 rfl hbt (Nat.le_trans h6 hmc) (Nat.le_trans h7 hms) hd (fun q cA H1 hK1 hP1 hD1 hS1 => ?_)
      have hcA : cA = ca t := by
        have k1 := (hK1.2 tys.length (cA, am_ty t) (by simp)).2
        have k2 := (X.2.2.2.2.2.1.2 t (ca t, am_ty t) (X.2.2.2.2.2.2.2.1 t h3)).2
        exact am_ra e4 k1 k2
      subst hcA
      have ha : ∀ i, i < w.length → va_up ad w.length q i = ad i := fun i hi => by
        show (if i = w.length then q else ad i) = ad i
        rw [if_neg (by omega)]
      have hq : va_up ad w.length q w.length = q := by
        show (if w.length = w.length then q else ad w.length) = q
        rw [if_pos rfl]
      have hw : am_w (va_up ad w.length q) ou ca (w ++ [.inl (t, n.toNatClampNeg, fun _ => 0)]) = am_w ad ou ca w ++ [(q, .inl (ca t, n.toNatClampNeg, am_c t (fun _ => 0)))] := by
        rw [am_w_push, am_w_ag ha (Nat.le_refl _) g3, hq]
        rfl
      have R1 := K _ hk (va_up ad w.length q) (fun i hi => ha i (by omega)) H1 locs ls (by dsimp only; rw [hw]; exact hP1) (by dsimp only; rw [hw]; exact hD1) hS1 (am_l_ag ha g1 hl)
      have h8 : (((.inr (.inl w.length) : am_V) :: S').map (am_v (va_up ad w.length q) ou)) = .ref q :: S'.map (am_v ad ou) := by
        rw [List.map_cons, am_s_ag ha g2]
        show Value.ref (va_up ad w.length q w.length) :: _ = _
        rw [hq]
      dsimp only at R1
      rw [h8] at R1
      exact R1
    · cases h
end AMW
