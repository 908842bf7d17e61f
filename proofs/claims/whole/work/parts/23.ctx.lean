/-! what all contracts share: array types, nest mates, the bundle of premises on E; rows that make tables' facts -/
def hg_tys (ca : Nat → ClassId) : List (ClassId × FieldType) := [(ca 0, .int), (ca 1, .char), (ca 2, .boolean), (ca 3, .byte), (ca 4, .long)]
theorem hg_tys_ok (ca : Nat → ClassId) : ∀ t, t < 5 → (hg_tys ca)[t]? = some (ca t, am_ty t) := by
  intro t ht
  match t, ht with
  | 0, _ => rfl
  | 1, _ => rfl
  | 2, _ => rfl
  | 3, _ => rfl
  | 4, _ => rfl
/-- a method's contract in this claim -/
def hg_Met (l : Launch) (E : (Nat → Prop) → State → Prop) (D : va_G) (ou : Nat → Nat) (ca : Nat → ClassId) (y : MethodName) (cc : ByteArray) (nL : Nat) (ret : Option FieldType) (h : Nat) (pre : List am_V → List am_C → Prop) (f : am_M) : Prop :=
  am_Met l E D hn_cl (hg_tys ca) ou ca y (Cond.code y cc nL ret :: gw_all) h (40 * h) pre f
theorem hg_good {x : Cond} {y : MethodName} {cc : ByteArray} {nL : Nat} {ret : Option FieldType} (h : Cond.code y cc nL ret ∈ gw_all) : GoodIn (x :: gw_all) (Cond.code y cc nL ret :: gw_all) := by
  intro w hw
  rcases List.mem_cons.mp hw with e | e
  · rw [e]
    exact ⟨List.mem_cons_of_mem _ h, good_of_word (gw_good _ h)⟩
  · exact ⟨List.mem_cons_of_mem _ e, good_of_word (gw_good _ e)⟩
theorem hg_fk {s : State} {args : Array Value} {meth : Method} {own : String} {x : Cond} {index ci fi mode : Nat} {C : String} {F : u_T} {N : Nat} {ty0 : Nat → FieldType} (hts : ∀ w ∈ x :: gw_all, w.before args s = true) (hc : hn_cl[ci]? = some (C, F, N)) (hfi : fi < N) (hin : ∀ w ∈ u_ws C F N, w ∈ gw_all) (hty : ∀ k, k < N → parseFieldDescriptor (F k).2.2.1 = some (ty0 k)) (hnm : ∀ a, a < N → ∀ b, b < N → a ≠ b → (F a).2.1 ≠ (F b).2.1) (he : ty0 fi = hn_ty ci fi) (hm : mode = 0 ∨ mode = 3) (i : Nat)
    (hw : (lw_tbl[i]? == some (Cond.fieldLink own index (F fi).1 (F fi).2.1 (F fi).2.2.1) && goodWord (Cond.fieldLink own index (F fi).1 (F fi).2.1 (F fi).2.2.1)) = true) (hf : mode = 0 → (F fi).2.2.2 = false) : am_FK s args meth own (x :: gw_all) hn_cl hn_ty index ci fi mode :=
  ⟨C, F, N, ty0, hc, hfi, fun w h => List.mem_cons_of_mem _ (hin w h), hty, hnm, he, fun _ => hts _ (List.mem_cons_of_mem _ (gw_mem i hw)), fun h => by omega, fun h => hf (by omega), fun h => by omega⟩
theorem am_no {α : Type} {y : α} (h : (none : Option α) = some y) : False := by cases h
theorem am_ev_s (T : am_T) (cuts : List Nat) (n : Nat) (st : am_S) : am_ev T cuts (n + 1) st = am_go T cuts 400 st (am_ev T cuts n) := rfl
theorem am_wl_ok {w1 : List am_C} {n : Nat} {x : Option am_V} {b : Bool} (hl : am_wl w1 n = true) (hr : am_loO n x = true) : (Nat.ble n w1.length && ((w1.length == n && (w1.all (am_loC n) && am_loO n x)) || b)) = true := by
  simp only [am_wl, Bool.and_eq_true] at hl
  have h1 : w1.length = n := by simpa using hl.1
  rw [hl.1, hl.2, hr, h1]
  simp
/-- a call with a selection of places -/
theorem am_cy {T : am_T} {len pc : Nat} {L : List (Option am_V)} {w w' wc : List am_C} {k j : Nat} {kt : am_S → Option am_Z} {a a' rest : List am_V} {sel : List Nat} {pre : List am_V → List am_C → Prop} {d1 : Decidable (am_sow w sel = true)} {d2 : Decidable (pre (a.map (am_dn sel)) (am_sub w sel))} {f : am_M} {z : Option am_Z} {r : Option am_V × List am_C × Nat × Nat} (hs : am_sow w sel = true) (hi : a.all (am_hin sel) = true) (ha : a.map (am_dn sel) = a') (hw : am_sub w sel = wc) (h : pre a' wc) (e : f a' wc = r) (hl : am_wl r.2.1 sel.length = true) (hr : am_loO sel.length r.1 = true) (hm : am_mix w sel r.2.1 = w')
    (q : (bif Nat.ble (k + r.2.2.1) (am_mc T) && (Nat.ble (j + r.2.2.2) (am_ms T) && Nat.ble rest.length 8) then am_nx len pc kt 3 L (am_ans sel w.length r.1 ++ rest) w' (k + r.2.2.1) (j + r.2.2.2) else none) = z) : @ite _ (am_sow w sel = true) d1 (bif a.all (am_hin sel) then @ite _ (pre (a.map (am_dn sel)) (am_sub w sel)) d2 (am_aft T len pc L w k j kt rest sel (f (a.map (am_dn sel)) (am_sub w sel))) none else none) none = z := by
  subst e ha hw hm
  rw [if_pos hs, hi]
  refine am_ci h ?_
  refine am_ci (am_wl_ok hl hr) ?_
  rw [am_sx, if_pos rfl]
  exact q
theorem am_cx {T : am_T} {len pc : Nat} {L : List (Option am_V)} {w : List am_C} {k j : Nat} {kt : am_S → Option am_Z} {a rest : List am_V} {pre : List am_V → List am_C → Prop} {d : Decidable (pre a w)} {f : am_M} {z : Option am_Z} {r : Option am_V × List am_C × Nat × Nat} (h : pre a w) (e : f a w = r) (hL : L.all (am_loO w.length) = true) (q : am_afx T len pc L w k j kt rest r = z) : @ite _ (pre a w) d (am_afw T len pc L w k j kt rest (f a w)) none = z := by
  subst e
  exact am_ci h (am_ci hL q)
theorem am_ac {n : Nat} {a : Option am_V} {r : List (Option am_V)} (h : am_loO n a = true) (k : r.all (am_loO n) = true) : (a :: r).all (am_loO n) = true := by
  rw [List.all_cons, h, k]
  rfl
theorem am_a0 {n : Nat} : ([] : List (Option am_V)).all (am_loO n) = true := rfl
/-- how often a loop may go round: a number that evaluation does not see -/
noncomputable def hg_fu : Nat := Classical.choose (⟨_, rfl⟩ : ∃ n : Nat, n = 1000)
theorem hg_fu_eq : hg_fu = 1000 := Classical.choose_spec (⟨_, rfl⟩ : ∃ n : Nat, n = 1000)
noncomputable def hg_fw : Nat := Classical.choose (⟨_, rfl⟩ : ∃ n : Nat, n = 1000000)
theorem hg_fw_eq : hg_fw = 1000000 := Classical.choose_spec (⟨_, rfl⟩ : ∃ n : Nat, n = 1000000)
theorem am_mix0 (w : List am_C) : am_mix w [] [] = w := rfl
theorem am_sow0 (w : List am_C) : am_sow w [] = true := rfl
theorem am_sub0 (w : List am_C) : am_sub w [] = [] := rfl
