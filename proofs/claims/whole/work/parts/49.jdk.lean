/-! methods of the JDK, over one String constant: place 0 outside is the String, place 1 its bytes (n of them, f) -/
def hj_E (E : (Nat → Prop) → State → Prop) (ou : Nat → Nat) (n : Nat) (f : Nat → Int32) (fz : am_V) : Prop := am_EC E ∧ (fz = .inr (.inr 0) ∨ fz = .inr (.inr 3)) ∧ ∀ (A : Nat → Prop) (s : State), E A s → va_O "java/lang/String" (ou 0) A s s.heap ∧ va_OF "java/lang/String" "coder" "B" (.int 0) (ou 0) A s s.heap ∧ va_OF "java/lang/String" "value" "[B" (.ref (ou 1)) (ou 0) A s s.heap ∧ va_T .byte (ou 1) n (fun j => .int (f j)) A s s.heap ∧ va_Z "java/lang/String" "COMPACT_STRINGS" "Z" (.int 1) A s s.heap ∧ va_Z "jdk/internal/util/Preconditions" "SIOOBE_FORMATTER" "Ljava/util/function/BiFunction;" (am_v ou ou fz) A s s.heap
def hj_oa (n : Nat) (f : Nat → Int32) (o : Nat) : Option (Nat × Nat × (Nat → Int32)) := match o with
  | 1 => some (3, n, f)
  | _ => none
theorem hj_oa_ok {n : Nat} {f : Nat → Int32} {ou : Nat → Nat} {A : Nat → Prop} {s : State} (h : va_T .byte (ou 1) n (fun j => .int (f j)) A s s.heap) : ∀ o t n' f', hj_oa n f o = some (t, n', f') → va_T (am_ty t) (ou o) n' (fun j => .int (f' j)) A s s.heap := by
  intro o t n' f' hq
  match o, hq with
  | 1, hq =>
    cases hq
    exact h
def prO_cs : List am_V → List am_C → Prop := fun a w => w = [] ∧ a = []
def fmO_cs : am_M := fun _ _ => (some (.inl 1), [], 0, 0)
def prO_fm : List am_V → List am_C → Prop := fun a w => w = [] ∧ a = []
def fmO_fm (fz : am_V) : am_M := fun _ _ => (some fz, [], 0, 0)
def prO_value : List am_V → List am_C → Prop := fun a w => w = [] ∧ a = [.inr (.inr 1)]
def fmO_value : am_M := fun _ _ => (some (.inr (.inr 2)), [], 0, 0)
def prO_coder : List am_V → List am_C → Prop := fun a w => w = [] ∧ a = [.inr (.inr 1)]
def fmO_coder : am_M := fun _ _ => (some (.inl 0), [], 0, 0)
section HJ
variable {p : Program} {l : Launch} {e : Env} {R : Room} {s : State} {m : MethodId} {args : Array Value} {below : List Frame} {meth : Method} {c : Code} {cc : ByteArray} {D : va_G} {cl : List vw_C} {tys : List (ClassId × FieldType)} {A : Nat → Prop} {Ts : List Jvm.Cond} {own : String} {nL nt pc idx : Nat} {ou : Nat → Nat} {ca : Nat → ClassId}
theorem hj_gs {C nm d : String} {fz : am_V} (X : am_X p s m args c cc own Ts D cl tys A nL ca nt) (hfz : ∀ ad : Nat → Nat, am_v ad ou fz = am_v ou ou fz) (hZ : va_Z C nm d (am_v ou ou fz) A s s.heap) (hlk : Jvm.Cond.fieldLink own idx C nm d ∈ Ts) (hd : decode cc pc = .ok (.getstatic idx, 3)) : am_CK p l e R s m args below meth c D cl A ou ca nL pc 0 (fun a w => w = [] ∧ a = []) (fun _ _ => (some fz, [], 0, 0)) := by
  refine am_ck_W (pr0 := fun a => a = []) (val := fun _ => fz) ?_
  rintro a ad H locs ls k j rest Q rfl hS hsz kk
  rw [hfz ad] at kk
  exact va_gets X.1 X.2.1 hZ hS X.2.2.2.1 (X.2.2.2.2.1 _ hlk) (fun _ h => h) hd kk
theorem hj_gf {nm d : String} {v : am_V} (X : am_X p s m args c cc own Ts D cl tys A nL ca nt) (hv : ∀ ad : Nat → Nat, am_v ad ou v = am_v ou ou v) (hF : va_OF "java/lang/String" nm d (am_v ou ou v) (ou 0) A s s.heap) (hlk : Jvm.Cond.fieldLink own idx "java/lang/String" nm d ∈ Ts) (hd : decode cc pc = .ok (.getfield idx, 3)) : am_CK p l e R s m args below meth c D cl A ou ca nL pc 1 (fun a w => w = [] ∧ a = [.inr (.inr 1)]) (fun _ _ => (some v, [], 0, 0)) := by
  refine am_ck_W (pr0 := fun a => a = [.inr (.inr 1)]) (val := fun _ => v) ?_
  rintro a ad H locs ls k j rest Q rfl hS hsz kk
  rw [hv ad] at kk
  exact vk_getf X.1 X.2.1 hF hS X.2.2.2.1 (X.2.2.2.2.1 _ hlk) (fun _ h => h) hd kk
theorem am_ck_VO {E : (Nat → Prop) → State → Prop} {y : MethodName} {pre : List am_V → List am_C → Prop} {f : am_M} {ret : Option FieldType} {ws ws' : List Jvm.Cond} {bytes : ByteArray} {fr lo n maxL : Nat} (X : am_X p s m args c cc own Ts D cl tys A nL ca nt) (hEs : E A s) (hE : am_EC E) (hM : am_Met l E D cl tys ou ca y ws fr lo pre f) (hG : GoodIn Ts ws) (hw : ws = Jvm.Cond.code y bytes maxL ret :: ws') (hini : Jvm.Cond.initialized y.cls ∈ Ts) (hlk : Jvm.Cond.methodLink own idx y ∈ Ts) (hin : Jvm.Cond.instanceMethod y ∈ Ts) (hsel : Jvm.Cond.selects y.cls y y ∈ Ts) (hO : va_O y.cls (ou 0) A s s.heap) (hpa : ∀ a w, pre a w → ∃ a', a = .inr (.inr 1) :: a')
    (hdd : y.cls ≠ "java/lang/invoke/MethodHandle" ∧ y.cls ≠ "java/lang/invoke/VarHandle" ∧ (parseMethodDescriptor y.desc).map (fun d => d.parameters.length) = some n) (hR : fr + 1 ≤ R.frames ∧ 8 + (maxL + 11) + lo ≤ R.locals) (hd : decode cc pc = .ok (.invokevirtual idx, 3)) : am_CK p l e R s m args below meth c D cl A ou ca nL pc (n + 1) pre f := by
  intro a wc ad H locs ls k j rest han hp hP hD hS hsz hW hk hj
  obtain ⟨a', rfl⟩ := hpa a wc hp
  have hrec : ∃ cell : Cell, H[ou 0]? = some cell ∧ cell.vm.isStatics = false ∧ s.vm.findClass y.cls = some cell.cls := by
    obtain ⟨cell, h1, h2, h3, -⟩ := hO.kept hS.2.1
    exact ⟨cell, h1, h2, h3⟩
  have hpre := am_pre (a := .inr (.inr 1) :: a') X hEs hE hP hD hS
  exact va_runV (C := y.cls) (nL := nL) (Ts := Ts) (own := own) (bytes := bytes) (maxL := maxL) (ret := ret) (n := n) (As := a'.map (am_v ad ou)) (b := ou 0) ⟨X.1, X.2.1, X.2.2.1, X.2.2.2.1, X.2.2.2.2.1⟩ (hM ad H.size _ wc hp) ⟨callB_of n X.2.2.2.2.1 hG hw rfl rfl (X.2.2.2.2.1 _ hini) (X.2.2.2.2.1 _ hlk) hdd hR, X.2.2.2.2.1 _ hin, X.2.2.2.2.1 _ hsel⟩ ⟨hpre.1, hrec, hpre.2⟩ rfl (by rw [List.length_map]; simpa using han) hsz (by simp [am_v]) (lv_room hW) hd ⟨hk, hj⟩
/-- Math.max, Math.min -/
theorem am_ck_W2 {n : Nat} {pre : List am_V → List am_C → Prop} {val : List am_V → am_V} {f : am_M} (hw : ∀ a w, pre a w → w = []) (hf : ∀ a w, pre a w → f a w = (some (val a), [], 0, 0)) (hrow : ∀ (a : List am_V) (ad : Nat → Nat) (H : Heap) (locs : List Loc) (ls : Array Slot) (k j : Nat) (rest : List Value) (Q : State → Prop), pre a [] → va_S A s.heap H locs → ls.size = nL → (rest.map fun v => v.category).sum ≤ 8 → k ≤ R.cells → j ≤ R.slots → W p l e R s m args below meth c H locs k j Q (F0 m (pc + 3) ls (am_v ad ou (val a) :: rest)) → W p l e R s m args below meth c H locs k j Q (F0 m pc ls ((a.map (am_v ad ou)).reverse ++ rest))) : am_CK p l e R s m args below meth c D cl A ou ca nL pc n pre f := by
  intro a wc ad H locs ls k j rest han hp hP hD hS hsz hW hk hj
  have hw0 := hw a wc hp
  subst hw0
  rw [hf a [] hp] at hk hj ⊢
  intro T hT X0
  obtain ⟨t, st, T', hT', X', rfl⟩ := hrow a ad H locs ls k j rest (fun t => ∃ T' : State, T'.heap = H ∧ Stand p l e R s m args below meth c T' locs k j ∧ t = T'.setTop (F0 m (pc + 3) ls (am_v ad ou (val a) :: rest))) hp hS hsz hW hk hj (fun T' hT' X' => ⟨_, Steps.refl _, T', hT', X', rfl⟩) T hT X0
  refine ⟨some (am_v ad ou (val a)), T, T', T', [], hT, ?_, ?_, rfl, rfl, ⟨⟨ad, fun _ _ => rfl, rfl, ?_, hD.self⟩, ?_, ?_⟩, fun target h => st.trans h⟩
  · rw [List.append_nil]
    exact X'
  · intro q hq
    cases hq
  · show va_P D cl (am_w ad ou ca []) T'.heap
    rw [hT']
    exact hP
  · rw [hT, hT']
    exact Nat.le_refl _
  · intro q _ _
    rw [hT, hT']
noncomputable def fnJ_max (p0 : Int32) (p1 : Int32) : Int32 := Classical.choose (⟨_, rfl⟩ : ∃ z : Int32, z = (if p0 < p1 then p1 else p0))
theorem fqJ_max (p0 : Int32) (p1 : Int32) : fnJ_max p0 p1 = (if p0 < p1 then p1 else p0) := Classical.choose_spec (⟨_, rfl⟩ : ∃ z : Int32, z = (if p0 < p1 then p1 else p0))
def wpJ_max (_ : Int32) (_ : Int32) : Prop := True
abbrev prJ_max : List am_V → List am_C → Prop := fun a w => ∃ (p0 : Int32) (p1 : Int32), a = [.inl p0, .inl p1] ∧ w = [] ∧ wpJ_max p0 p1
noncomputable def fmJ_max : am_M := fun a _ => (some (.inl (fnJ_max (am_i (am_an a 0)) (am_i (am_an a 1)))), [], 0, 0)
theorem feJ_max (p0 : Int32) (p1 : Int32) : fmJ_max [.inl p0, .inl p1] [] = (some (.inl (fnJ_max p0 p1)), [], 0, 0) := rfl
noncomputable def fnJ_min (p0 : Int32) (p1 : Int32) : Int32 := Classical.choose (⟨_, rfl⟩ : ∃ z : Int32, z = (if p1 < p0 then p1 else p0))
theorem fqJ_min (p0 : Int32) (p1 : Int32) : fnJ_min p0 p1 = (if p1 < p0 then p1 else p0) := Classical.choose_spec (⟨_, rfl⟩ : ∃ z : Int32, z = (if p1 < p0 then p1 else p0))
def wpJ_min (_ : Int32) (_ : Int32) : Prop := True
abbrev prJ_min : List am_V → List am_C → Prop := fun a w => ∃ (p0 : Int32) (p1 : Int32), a = [.inl p0, .inl p1] ∧ w = [] ∧ wpJ_min p0 p1
noncomputable def fmJ_min : am_M := fun a _ => (some (.inl (fnJ_min (am_i (am_an a 0)) (am_i (am_an a 1)))), [], 0, 0)
theorem feJ_min (p0 : Int32) (p1 : Int32) : fmJ_min [.inl p0, .inl p1] [] = (some (.inl (fnJ_min p0 p1)), [], 0, 0) := rfl
theorem am_ck_max (X : am_X p s m args c cc own Ts D cl tys A nL ca nt) (hlk : Jvm.Cond.methodLink own idx Lib.Math.max.name ∈ Ts) (hst : Jvm.Cond.static Lib.Math.max.name ∈ Ts) (hini : Jvm.Cond.initialized "java/lang/Math" ∈ Ts) (hcd : Jvm.Cond.code Lib.Math.max.name Lib.Math.max.code 2 (some .int) ∈ Ts) (hR : 1 ≤ R.frames ∧ 40 ≤ R.locals) (hd : decode cc pc = .ok (.invokestatic idx, 3)) : am_CK p l e R s m args below meth c D cl A ou ca nL pc 2 prJ_max fmJ_max := by
  refine am_ck_W2 (val := fun a => .inl (fnJ_max (am_i (am_an a 0)) (am_i (am_an a 1)))) ?_ ?_ ?_
  · rintro a w ⟨p0, p1, rfl, rfl, -⟩
    rfl
  · rintro a w ⟨p0, p1, rfl, rfl, -⟩
    rfl
  · rintro a ad H locs ls k j rest Q ⟨p0, p1, rfl, -, -⟩ hS hsz hW hk hj kk
    refine va_mmax (rest := rest) X.1 X.2.1 (X.2.2.1.trans hsz.symm) X.2.2.2.1 (X.2.2.2.2.1 _ hlk) (X.2.2.2.2.1 _ hst) (X.2.2.2.2.1 _ hini) (X.2.2.2.2.1 _ hcd) hR.1 (by have := hR.2; omega) hk hj (x := p0) (y := p1) hd ?_
    rw [← fqJ_max p0 p1]
    exact kk
theorem am_ck_min (X : am_X p s m args c cc own Ts D cl tys A nL ca nt) (hlk : Jvm.Cond.methodLink own idx Lib.Math.min.name ∈ Ts) (hst : Jvm.Cond.static Lib.Math.min.name ∈ Ts) (hini : Jvm.Cond.initialized "java/lang/Math" ∈ Ts) (hcd : Jvm.Cond.code Lib.Math.min.name Lib.Math.min.code 2 (some .int) ∈ Ts) (hR : 1 ≤ R.frames ∧ 40 ≤ R.locals) (hd : decode cc pc = .ok (.invokestatic idx, 3)) : am_CK p l e R s m args below meth c D cl A ou ca nL pc 2 prJ_min fmJ_min := by
  refine am_ck_W2 (val := fun a => .inl (fnJ_min (am_i (am_an a 0)) (am_i (am_an a 1)))) ?_ ?_ ?_
  · rintro a w ⟨p0, p1, rfl, rfl, -⟩
    rfl
  · rintro a w ⟨p0, p1, rfl, rfl, -⟩
    rfl
  · rintro a ad H locs ls k j rest Q ⟨p0, p1, rfl, -, -⟩ hS hsz hW hk hj kk
    refine va_mmin (rest := rest) X.1 X.2.1 (X.2.2.1.trans hsz.symm) X.2.2.2.1 (X.2.2.2.2.1 _ hlk) (X.2.2.2.2.1 _ hst) (X.2.2.2.2.1 _ hini) (X.2.2.2.2.1 _ hcd) hR.1 (by have := hR.2; omega) hk hj (x := p0) (y := p1) hd ?_
    rw [← fqJ_min p0 p1]
    exact kk
end HJ
def kdj_coder : List (Nat × Instr × Nat) := [(0, .getstatic 38, 3), (3, .ifCond .eq 10, 3), (6, .aload_n 0, 1), (7, .getfield 15, 3), (10, .goto 4, 3), (13, .iconst 1, 1), (14, .ireturn, 1)]
theorem kdj_coder_ok : ∀ q ∈ kdj_coder, decode prog_20_method_152_code q.1 = .ok q.2 := by decide +kernel
def hyj_coder : MethodName := ⟨"java/lang/String", "coder", "()B"⟩
noncomputable def kij_coder (n : Nat) (f : Nat → Int32) : List (Nat × Option (List Nat) × Nat × (List am_V → List am_C → Prop) × am_M) := [(0, some [], 0, prO_cs, fmO_cs), (7, some [], 1, prO_coder, fmO_coder)]
noncomputable def kbj_coder (n : Nat) (f : Nat → Int32) : am_B := (kdj_coder, fun _ => none, hn_ty, fun _ => none, fun _ => none, am_as (kij_coder n f), hj_oa n f, 5, 1, (some .byte))
def wpj_coder (n : Nat) (f : Nat → Int32) : Prop := True
set_option maxRecDepth 100000 in
set_option maxHeartbeats 4000000 in
theorem rej_coder (n : Nat) (f : Nat → Int32) (hp : wpj_coder n f) : am_lf (am_mk (kbj_coder n f) 0 0 0) [] (0, am_L0 [.inr (.inr 1)] 1, [], [], 0, 0) = some (some (.inl (0 : Int32)), []) := by
  unfold wpj_coder at hp
  refine am_lf_eq ?_
  generalize am_lf (am_mk (kbj_coder n f) 0 0 0) [] = kt
  refine am_cy (pre := prO_cs) (f := fmO_cs) (a' := []) (wc := []) (w' := []) (r := (some (.inl (1 : Int32)), [], 0, 0)) ?_ ?_ ?_ ?_ ?_ ?_ ?_ ?_ ?_ ?_
  · exact am_sow0 _
  · rfl
  · rfl
  · exact am_sub0 _
  · exact ⟨rfl, rfl⟩
  · rfl
  · rfl
  · rfl
  · exact am_mix0 _
  refine am_cy (pre := prO_coder) (f := fmO_coder) (a' := [.inr (.inr 1)]) (wc := []) (w' := []) (r := (some (.inl (0 : Int32)), [], 0, 0)) ?_ ?_ ?_ ?_ ?_ ?_ ?_ ?_ ?_ ?_
  · exact am_sow0 _
  · rfl
  · rfl
  · exact am_sub0 _
  · exact ⟨rfl, rfl⟩
  · rfl
  · rfl
  · rfl
  · exact am_mix0 _
  rfl
abbrev prj_coder (n : Nat) (f : Nat → Int32) : List am_V → List am_C → Prop := fun a w => a = [.inr (.inr 1)] ∧ w = [] ∧ wpj_coder n f
def fmj_coder (n : Nat) (f : Nat → Int32) : am_M := fun _ _ => (some (.inl (0 : Int32)), [], 0, 0)
theorem fej_coder (n : Nat) (f : Nat → Int32) : fmj_coder n f [.inr (.inr 1)] [] = (some (.inl (0 : Int32)), [], 0, 0) := rfl
set_option maxRecDepth 100000 in
set_option maxHeartbeats 4000000 in
theorem rnj_coder (n : Nat) (f : Nat → Int32) : ∀ (a : List am_V) (w : List am_C), prj_coder n f a w → ∃ nq, am_ev (am_mk (kbj_coder n f) (fmj_coder n f a w).2.2.1 (fmj_coder n f a w).2.2.2 w.length) [] nq (0, am_L0 a 1, [], w, 0, 0) = some ((fmj_coder n f a w).1, (fmj_coder n f a w).2.1) := by
  rintro a w ⟨rfl, rfl, hp⟩
  rw [fej_coder n f]
  exact am_lf_ev (rej_coder n f hp)
theorem rlj_coder (n : Nat) (f : Nat → Int32) : ∀ (a : List am_V) (w : List am_C), prj_coder n f a w → a.length ≤ 1 := by
  rintro a w ⟨rfl, rfl, hp⟩
  exact Nat.le_of_ble_eq_true rfl
theorem paj_coder (n : Nat) (f : Nat → Int32) : ∀ a w, prj_coder n f a w → ∃ a', a = .inr (.inr 1) :: a' := by
  rintro a w ⟨rfl, rfl, hp⟩
  exact ⟨_, rfl⟩
set_option maxRecDepth 100000 in
set_option maxHeartbeats 4000000 in
theorem kmj_coder {l : Launch} {E : (Nat → Prop) → State → Prop} {D : va_G} {ou : Nat → Nat} {ca : Nat → ClassId} {n : Nat} {f : Nat → Int32} {fz : am_V} (hE : hj_E E ou n f fz) : hg_Met l E D ou ca hyj_coder prog_20_method_152_code 1 (some .byte) 0 (prj_coder n f) (fmj_coder n f) := by
  refine am_met (B := kbj_coder n f) (cuts := []) (nt := 5) (by decide +kernel) rfl rfl (hg_tys_ok ca) ?_ (by decide) (rlj_coder n f) ?_ (rnj_coder n f)
  · exact fun t ht => List.mem_cons_of_mem _ (hg_arr t ht)
  · intro a w hp ad p e R s m args below meth c hR X hEs hnm
    have hR1 : 0 ≤ R.frames ∧ 0 ≤ R.locals := by rw [hR]; exact ⟨Nat.le_refl _, Nat.le_refl _⟩
    have hN := hE.2.2 _ _ hEs
    refine ⟨kdj_coder_ok, fun index ci fi mode hq => (am_no hq).elim, fun index ci fs hq => (am_no hq).elim, fun x v hq => (am_no hq).elim, ?_, hj_oa_ok hN.2.2.2.1, rfl, rfl, by rw [hR]; exact Nat.le_refl _, by rw [hR]; exact Nat.le_refl _⟩
    intro pc sel n0 pre0 f0 hq
    have hz : ∀ q ∈ kij_coder n f, am_CK p l e R s m args below meth c D hn_cl (va_A (am_w ad ou ca w) s.heap.size) ou ca 1 q.1 q.2.2.1 q.2.2.2.1 q.2.2.2.2 := by
      refine am_allc (hj_gs (fz := .inl 1) X (fun _ => rfl) hN.2.2.2.2.1 (List.mem_cons_of_mem _ (gw_mem 372 (by decide +kernel))) (kdj_coder_ok (0, .getstatic 38, 3) (List.mem_of_getElem? (i := 0) rfl))) (am_allc (hj_gf (v := .inl 0) X (fun _ => rfl) hN.2.1 (List.mem_cons_of_mem _ (gw_mem 1378 (by decide +kernel))) (kdj_coder_ok (7, .getfield 15, 3) (List.mem_of_getElem? (i := 3) rfl))) (am_all0))
    exact hz _ (am_as_mem hq)
def kdj_isLatin1 : List (Nat × Instr × Nat) := [(0, .getstatic 38, 3), (3, .ifCond .eq 14, 3), (6, .aload_n 0, 1), (7, .getfield 15, 3), (10, .ifCond .ne 7, 3), (13, .iconst 1, 1), (14, .goto 4, 3), (17, .iconst 0, 1), (18, .ireturn, 1)]
theorem kdj_isLatin1_ok : ∀ q ∈ kdj_isLatin1, decode prog_20_method_154_code q.1 = .ok q.2 := by decide +kernel
def hyj_isLatin1 : MethodName := ⟨"java/lang/String", "isLatin1", "()Z"⟩
noncomputable def kij_isLatin1 (n : Nat) (f : Nat → Int32) : List (Nat × Option (List Nat) × Nat × (List am_V → List am_C → Prop) × am_M) := [(0, some [], 0, prO_cs, fmO_cs), (7, some [], 1, prO_coder, fmO_coder)]
noncomputable def kbj_isLatin1 (n : Nat) (f : Nat → Int32) : am_B := (kdj_isLatin1, fun _ => none, hn_ty, fun _ => none, fun _ => none, am_as (kij_isLatin1 n f), hj_oa n f, 5, 1, (some .boolean))
def wpj_isLatin1 (n : Nat) (f : Nat → Int32) : Prop := True
set_option maxRecDepth 100000 in
set_option maxHeartbeats 4000000 in
theorem rej_isLatin1 (n : Nat) (f : Nat → Int32) (hp : wpj_isLatin1 n f) : am_lf (am_mk (kbj_isLatin1 n f) 0 0 0) [] (0, am_L0 [.inr (.inr 1)] 1, [], [], 0, 0) = some (some (.inl (1 : Int32)), []) := by
  unfold wpj_isLatin1 at hp
  refine am_lf_eq ?_
  generalize am_lf (am_mk (kbj_isLatin1 n f) 0 0 0) [] = kt
  refine am_cy (pre := prO_cs) (f := fmO_cs) (a' := []) (wc := []) (w' := []) (r := (some (.inl (1 : Int32)), [], 0, 0)) ?_ ?_ ?_ ?_ ?_ ?_ ?_ ?_ ?_ ?_
  · exact am_sow0 _
  · rfl
  · rfl
  · exact am_sub0 _
  · exact ⟨rfl, rfl⟩
  · rfl
  · rfl
  · rfl
  · exact am_mix0 _
  refine am_cy (pre := prO_coder) (f := fmO_coder) (a' := [.inr (.inr 1)]) (wc := []) (w' := []) (r := (some (.inl (0 : Int32)), [], 0, 0)) ?_ ?_ ?_ ?_ ?_ ?_ ?_ ?_ ?_ ?_
  · exact am_sow0 _
  · rfl
  · rfl
  · exact am_sub0 _
  · exact ⟨rfl, rfl⟩
  · rfl
  · rfl
  · rfl
  · exact am_mix0 _
  rfl
abbrev prj_isLatin1 (n : Nat) (f : Nat → Int32) : List am_V → List am_C → Prop := fun a w => a = [.inr (.inr 1)] ∧ w = [] ∧ wpj_isLatin1 n f
def fmj_isLatin1 (n : Nat) (f : Nat → Int32) : am_M := fun _ _ => (some (.inl (1 : Int32)), [], 0, 0)
theorem fej_isLatin1 (n : Nat) (f : Nat → Int32) : fmj_isLatin1 n f [.inr (.inr 1)] [] = (some (.inl (1 : Int32)), [], 0, 0) := rfl
set_option maxRecDepth 100000 in
set_option maxHeartbeats 4000000 in
theorem rnj_isLatin1 (n : Nat) (f : Nat → Int32) : ∀ (a : List am_V) (w : List am_C), prj_isLatin1 n f a w → ∃ nq, am_ev (am_mk (kbj_isLatin1 n f) (fmj_isLatin1 n f a w).2.2.1 (fmj_isLatin1 n f a w).2.2.2 w.length) [] nq (0, am_L0 a 1, [], w, 0, 0) = some ((fmj_isLatin1 n f a w).1, (fmj_isLatin1 n f a w).2.1) := by
  rintro a w ⟨rfl, rfl, hp⟩
  rw [fej_isLatin1 n f]
  exact am_lf_ev (rej_isLatin1 n f hp)
theorem rlj_isLatin1 (n : Nat) (f : Nat → Int32) : ∀ (a : List am_V) (w : List am_C), prj_isLatin1 n f a w → a.length ≤ 1 := by
  rintro a w ⟨rfl, rfl, hp⟩
  exact Nat.le_of_ble_eq_true rfl
theorem paj_isLatin1 (n : Nat) (f : Nat → Int32) : ∀ a w, prj_isLatin1 n f a w → ∃ a', a = .inr (.inr 1) :: a' := by
  rintro a w ⟨rfl, rfl, hp⟩
  exact ⟨_, rfl⟩
set_option maxRecDepth 100000 in
set_option maxHeartbeats 4000000 in
theorem kmj_isLatin1 {l : Launch} {E : (Nat → Prop) → State → Prop} {D : va_G} {ou : Nat → Nat} {ca : Nat → ClassId} {n : Nat} {f : Nat → Int32} {fz : am_V} (hE : hj_E E ou n f fz) : hg_Met l E D ou ca hyj_isLatin1 prog_20_method_154_code 1 (some .boolean) 0 (prj_isLatin1 n f) (fmj_isLatin1 n f) := by
  refine am_met (B := kbj_isLatin1 n f) (cuts := []) (nt := 5) (by decide +kernel) rfl rfl (hg_tys_ok ca) ?_ (by decide) (rlj_isLatin1 n f) ?_ (rnj_isLatin1 n f)
  · exact fun t ht => List.mem_cons_of_mem _ (hg_arr t ht)
  · intro a w hp ad p e R s m args below meth c hR X hEs hnm
    have hR1 : 0 ≤ R.frames ∧ 0 ≤ R.locals := by rw [hR]; exact ⟨Nat.le_refl _, Nat.le_refl _⟩
    have hN := hE.2.2 _ _ hEs
    refine ⟨kdj_isLatin1_ok, fun index ci fi mode hq => (am_no hq).elim, fun index ci fs hq => (am_no hq).elim, fun x v hq => (am_no hq).elim, ?_, hj_oa_ok hN.2.2.2.1, rfl, rfl, by rw [hR]; exact Nat.le_refl _, by rw [hR]; exact Nat.le_refl _⟩
    intro pc sel n0 pre0 f0 hq
    have hz : ∀ q ∈ kij_isLatin1 n f, am_CK p l e R s m args below meth c D hn_cl (va_A (am_w ad ou ca w) s.heap.size) ou ca 1 q.1 q.2.2.1 q.2.2.2.1 q.2.2.2.2 := by
      refine am_allc (hj_gs (fz := .inl 1) X (fun _ => rfl) hN.2.2.2.2.1 (List.mem_cons_of_mem _ (gw_mem 372 (by decide +kernel))) (kdj_isLatin1_ok (0, .getstatic 38, 3) (List.mem_of_getElem? (i := 0) rfl))) (am_allc (hj_gf (v := .inl 0) X (fun _ => rfl) hN.2.1 (List.mem_cons_of_mem _ (gw_mem 1378 (by decide +kernel))) (kdj_isLatin1_ok (7, .getfield 15, 3) (List.mem_of_getElem? (i := 3) rfl))) (am_all0))
    exact hz _ (am_as_mem hq)
def kdj_length : List (Nat × Instr × Nat) := [(0, .aload_n 0, 1), (1, .getfield 9, 3), (4, .arraylength, 1), (5, .aload_n 0, 1), (6, .invokevirtual 335, 3), (9, .ishr, 1), (10, .ireturn, 1)]
theorem kdj_length_ok : ∀ q ∈ kdj_length, decode prog_20_method_54_code q.1 = .ok q.2 := by decide +kernel
def hyj_length : MethodName := ⟨"java/lang/String", "length", "()I"⟩
noncomputable def kij_length (n : Nat) (f : Nat → Int32) : List (Nat × Option (List Nat) × Nat × (List am_V → List am_C → Prop) × am_M) := [(1, some [], 1, prO_value, fmO_value), (6, some [], 1, prj_coder n f, fmj_coder n f)]
noncomputable def kbj_length (n : Nat) (f : Nat → Int32) : am_B := (kdj_length, fun _ => none, hn_ty, fun _ => none, fun _ => none, am_as (kij_length n f), hj_oa n f, 5, 1, (some .int))
noncomputable def fnj_length (n : Nat) (f : Nat → Int32) : Int32 := Classical.choose (⟨_, rfl⟩ : ∃ z : Int32, z = ((Int32.ofNat n) >>> ((0 : Int32) &&& 31)))
theorem fqj_length (n : Nat) (f : Nat → Int32) : fnj_length n f = ((Int32.ofNat n) >>> ((0 : Int32) &&& 31)) := Classical.choose_spec (⟨_, rfl⟩ : ∃ z : Int32, z = ((Int32.ofNat n) >>> ((0 : Int32) &&& 31)))
def wpj_length (n : Nat) (f : Nat → Int32) : Prop := (wpj_coder n f)
set_option maxRecDepth 100000 in
set_option maxHeartbeats 4000000 in
theorem rej_length (n : Nat) (f : Nat → Int32) (hp : wpj_length n f) : am_lf (am_mk (kbj_length n f) 0 0 0) [] (0, am_L0 [.inr (.inr 1)] 1, [], [], 0, 0) = some (some (.inl (fnj_length n f)), []) := by
  unfold wpj_length at hp
  refine am_lf_eq ?_
  generalize am_lf (am_mk (kbj_length n f) 0 0 0) [] = kt
  refine am_cy (pre := prO_value) (f := fmO_value) (a' := [.inr (.inr 1)]) (wc := []) (w' := []) (r := (some (.inr (.inr 2)), [], 0, 0)) ?_ ?_ ?_ ?_ ?_ ?_ ?_ ?_ ?_ ?_
  · exact am_sow0 _
  · rfl
  · rfl
  · exact am_sub0 _
  · exact ⟨rfl, rfl⟩
  · rfl
  · rfl
  · rfl
  · exact am_mix0 _
  refine am_cy (pre := prj_coder n f) (f := fmj_coder n f) (a' := [.inr (.inr 1)]) (wc := []) (w' := []) (r := (some (.inl (0 : Int32)), [], 0, 0)) ?_ ?_ ?_ ?_ ?_ ?_ ?_ ?_ ?_ ?_
  · exact am_sow0 _
  · rfl
  · rfl
  · exact am_sub0 _
  · exact ⟨rfl, rfl, hp⟩
  · exact fej_coder n f
  · exact rfl
  · rfl
  · exact am_mix0 _
  have e : fnj_length n f = ((Int32.ofNat n) >>> ((0 : Int32) &&& 31)) := by
    rw [fqj_length]
  rw [e] <;> rfl
abbrev prj_length (n : Nat) (f : Nat → Int32) : List am_V → List am_C → Prop := fun a w => a = [.inr (.inr 1)] ∧ w = [] ∧ wpj_length n f
noncomputable def fmj_length (n : Nat) (f : Nat → Int32) : am_M := fun a w => (fun (z : Int32) => (some (.inl z), [], 0, 0)) (fnj_length n f)
theorem fej_length (n : Nat) (f : Nat → Int32) : fmj_length n f [.inr (.inr 1)] [] = (some (.inl (fnj_length n f)), [], 0, 0) := rfl
set_option maxRecDepth 100000 in
set_option maxHeartbeats 4000000 in
theorem rnj_length (n : Nat) (f : Nat → Int32) : ∀ (a : List am_V) (w : List am_C), prj_length n f a w → ∃ nq, am_ev (am_mk (kbj_length n f) (fmj_length n f a w).2.2.1 (fmj_length n f a w).2.2.2 w.length) [] nq (0, am_L0 a 1, [], w, 0, 0) = some ((fmj_length n f a w).1, (fmj_length n f a w).2.1) := by
  rintro a w ⟨rfl, rfl, hp⟩
  rw [fej_length n f]
  exact am_lf_ev (rej_length n f hp)
theorem rlj_length (n : Nat) (f : Nat → Int32) : ∀ (a : List am_V) (w : List am_C), prj_length n f a w → a.length ≤ 1 := by
  rintro a w ⟨rfl, rfl, hp⟩
  exact Nat.le_of_ble_eq_true rfl
theorem paj_length (n : Nat) (f : Nat → Int32) : ∀ a w, prj_length n f a w → ∃ a', a = .inr (.inr 1) :: a' := by
  rintro a w ⟨rfl, rfl, hp⟩
  exact ⟨_, rfl⟩
set_option maxRecDepth 100000 in
set_option maxHeartbeats 4000000 in
theorem kmj_length {l : Launch} {E : (Nat → Prop) → State → Prop} {D : va_G} {ou : Nat → Nat} {ca : Nat → ClassId} {n : Nat} {f : Nat → Int32} {fz : am_V} (hE : hj_E E ou n f fz) : hg_Met l E D ou ca hyj_length prog_20_method_54_code 1 (some .int) 1 (prj_length n f) (fmj_length n f) := by
  refine am_met (B := kbj_length n f) (cuts := []) (nt := 5) (by decide +kernel) rfl rfl (hg_tys_ok ca) ?_ (by decide) (rlj_length n f) ?_ (rnj_length n f)
  · exact fun t ht => List.mem_cons_of_mem _ (hg_arr t ht)
  · intro a w hp ad p e R s m args below meth c hR X hEs hnm
    have hR1 : 1 ≤ R.frames ∧ 40 ≤ R.locals := by rw [hR]; exact ⟨Nat.le_refl _, Nat.le_refl _⟩
    have hN := hE.2.2 _ _ hEs
    refine ⟨kdj_length_ok, fun index ci fi mode hq => (am_no hq).elim, fun index ci fs hq => (am_no hq).elim, fun x v hq => (am_no hq).elim, ?_, hj_oa_ok hN.2.2.2.1, rfl, rfl, by rw [hR]; exact Nat.le_refl _, by rw [hR]; exact Nat.le_refl _⟩
    intro pc sel n0 pre0 f0 hq
    have hz : ∀ q ∈ kij_length n f, am_CK p l e R s m args below meth c D hn_cl (va_A (am_w ad ou ca w) s.heap.size) ou ca 1 q.1 q.2.2.1 q.2.2.2.1 q.2.2.2.2 := by
      refine am_allc (hj_gf (v := .inr (.inr 2)) X (fun _ => rfl) hN.2.2.1 (List.mem_cons_of_mem _ (gw_mem 1377 (by decide +kernel))) (kdj_length_ok (1, .getfield 9, 3) (List.mem_of_getElem? (i := 1) rfl))) (am_allc (am_ck_VO (n := 0) X hEs hE.1 (kmj_coder hE) (hg_good (gw_mem 371 (by decide +kernel))) rfl (List.mem_cons_of_mem _ (gw_mem 83 (by decide +kernel))) (List.mem_cons_of_mem _ (gw_mem 368 (by decide +kernel))) (List.mem_cons_of_mem _ (gw_mem 369 (by decide +kernel))) (List.mem_cons_of_mem _ (gw_mem 370 (by decide +kernel))) hN.1 (paj_coder n f) (by decide +kernel) ⟨Nat.le_trans (by decide) hR1.1, Nat.le_trans (by decide) hR1.2⟩ (kdj_length_ok (6, .invokevirtual 335, 3) (List.mem_of_getElem? (i := 4) rfl))) (am_all0))
    exact hz _ (am_as_mem hq)
def kdj_preIndex : List (Nat × Instr × Nat) := [(0, .iload_n 0, 1), (1, .ifCond .lt 8, 3), (4, .iload_n 0, 1), (5, .iload_n 1, 1), (6, .if_icmp .lt 10, 3), (16, .iload_n 0, 1), (17, .ireturn, 1)]
theorem kdj_preIndex_ok : ∀ q ∈ kdj_preIndex, decode prog_25_method_11_code q.1 = .ok q.2 := by decide +kernel
def hyj_preIndex : MethodName := ⟨"jdk/internal/util/Preconditions", "checkIndex", "(IILjava/util/function/BiFunction;)I"⟩
def kij_preIndex : List (Nat × Option (List Nat) × Nat × (List am_V → List am_C → Prop) × am_M) := []
noncomputable def kbj_preIndex (fz : am_V) : am_B := (kdj_preIndex, fun _ => none, hn_ty, fun _ => none, fun _ => none, fun _ => none, fun _ => none, 5, 3, (some .int))
def wpj_preIndex (p0 p1 : Int32) : Prop := ¬ p0 < 0 ∧ p0 < p1
abbrev prj_preIndex (fz : am_V) : List am_V → List am_C → Prop := fun a w => ∃ (p0 : Int32) (p1 : Int32), a = [.inl p0, .inl p1, fz] ∧ w = [] ∧ wpj_preIndex p0 p1
def fmj_preIndex (fz : am_V) : am_M := fun a _ => (some (.inl (am_i (am_an a 0))), [], 0, 0)
theorem rej_preIndex (fz : am_V) (p0 p1 : Int32) (hp : wpj_preIndex p0 p1) : am_lf (am_mk (kbj_preIndex fz) 0 0 0) [] (0, am_L0 [.inl p0, .inl p1, fz] 3, [], [], 0, 0) = some (some (.inl p0), []) := by
  refine am_lf_eq ?_
  generalize am_lf (am_mk (kbj_preIndex fz) 0 0 0) [] = kt
  refine am_cn (c := p0 < 0) hp.1 ?_
  refine am_ci (c := p0 < p1) hp.2 ?_
  rfl
theorem rnj_preIndex (fz : am_V) (hfz : fz = .inr (.inr 0) ∨ fz = .inr (.inr 3)) : ∀ (a : List am_V) (w : List am_C), prj_preIndex fz a w → ∃ n, am_ev (am_mk (kbj_preIndex fz) (fmj_preIndex fz a w).2.2.1 (fmj_preIndex fz a w).2.2.2 w.length) [] n (0, am_L0 a 3, [], w, 0, 0) = some ((fmj_preIndex fz a w).1, (fmj_preIndex fz a w).2.1) := by
  rintro a w ⟨p0, p1, rfl, rfl, hp⟩
  exact am_lf_ev (rej_preIndex fz p0 p1 hp)
theorem rlj_preIndex (fz : am_V) : ∀ (a : List am_V) (w : List am_C), prj_preIndex fz a w → a.length ≤ 3 := by
  rintro a w ⟨p0, p1, rfl, rfl, hp⟩
  exact Nat.le_of_ble_eq_true rfl
set_option maxRecDepth 100000 in
set_option maxHeartbeats 4000000 in
theorem kmj_preIndex {l : Launch} {E : (Nat → Prop) → State → Prop} {D : va_G} {ou : Nat → Nat} {ca : Nat → ClassId} {n : Nat} {f : Nat → Int32} {fz : am_V} (hE : hj_E E ou n f fz) : hg_Met l E D ou ca hyj_preIndex prog_25_method_11_code 3 (some .int) 0 (prj_preIndex fz) (fmj_preIndex fz) := by
  refine am_met (B := kbj_preIndex fz) (cuts := []) (nt := 5) (by decide +kernel) rfl rfl (hg_tys_ok ca) ?_ (by decide) (rlj_preIndex fz) ?_ (fun a w hp => rnj_preIndex fz hE.2.1 a w hp)
  · exact fun t ht => List.mem_cons_of_mem _ (hg_arr t ht)
  · intro a w hp ad p e R s m args below meth c hR X hEs hnm
    have hR1 : 0 ≤ R.frames ∧ 0 ≤ R.locals := by rw [hR]; exact ⟨Nat.le_refl _, Nat.le_refl _⟩
    have hN := hE.2.2 _ _ hEs
    refine ⟨kdj_preIndex_ok, fun index ci fi mode hq => (am_no hq).elim, fun index ci fs hq => (am_no hq).elim, fun x v hq => (am_no hq).elim, ?_, fun o t n f hq => (am_no hq).elim, rfl, rfl, by rw [hR]; exact Nat.le_refl _, by rw [hR]; exact Nat.le_refl _⟩
    intro pc sel n0 pre0 f0 hq
    exact (am_no hq).elim
def kdj_checkIndex : List (Nat × Instr × Nat) := [(0, .iload_n 0, 1), (1, .iload_n 1, 1), (2, .getstatic 1053, 3), (5, .invokestatic 1059, 3), (8, .pop, 1), (9, .return_, 1)]
theorem kdj_checkIndex_ok : ∀ q ∈ kdj_checkIndex, decode prog_20_method_155_code q.1 = .ok q.2 := by decide +kernel
def hyj_checkIndex : MethodName := ⟨"java/lang/String", "checkIndex", "(II)V"⟩
noncomputable def kij_checkIndex (fz : am_V) : List (Nat × Option (List Nat) × Nat × (List am_V → List am_C → Prop) × am_M) := [(2, some [], 0, prO_fm, fmO_fm fz), (5, some [], 3, prj_preIndex fz, fmj_preIndex fz)]
noncomputable def kbj_checkIndex (fz : am_V) : am_B := (kdj_checkIndex, fun _ => none, hn_ty, fun _ => none, fun _ => none, am_as (kij_checkIndex fz), fun _ => none, 5, 2, none)
def wpj_checkIndex (p0 p1 : Int32) : Prop := wpj_preIndex p0 p1
abbrev prj_checkIndex : List am_V → List am_C → Prop := fun a w => ∃ (p0 : Int32) (p1 : Int32), a = [.inl p0, .inl p1] ∧ w = [] ∧ wpj_checkIndex p0 p1
def fmj_checkIndex : am_M := fun _ _ => (none, [], 0, 0)
theorem fej_checkIndex (p0 p1 : Int32) : fmj_checkIndex [.inl p0, .inl p1] [] = (none, [], 0, 0) := rfl
theorem rej_checkIndex0 (p0 p1 : Int32) (hp : wpj_checkIndex p0 p1) : am_lf (am_mk (kbj_checkIndex (.inr (.inr 0))) 0 0 0) [] (0, am_L0 [.inl p0, .inl p1] 2, [], [], 0, 0) = some (none, []) := by
  refine am_lf_eq ?_
  generalize am_lf (am_mk (kbj_checkIndex (.inr (.inr 0))) 0 0 0) [] = kt
  refine am_cy (pre := prO_fm) (f := fmO_fm (.inr (.inr 0))) (a' := []) (wc := []) (w' := []) (r := (some (.inr (.inr 0)), [], 0, 0)) ?_ ?_ ?_ ?_ ?_ ?_ ?_ ?_ ?_ ?_
  · exact am_sow0 _
  · rfl
  · rfl
  · exact am_sub0 _
  · exact ⟨rfl, rfl⟩
  · rfl
  · rfl
  · rfl
  · exact am_mix0 _
  refine am_cy (pre := prj_preIndex (.inr (.inr 0))) (f := fmj_preIndex (.inr (.inr 0))) (a' := [.inl p0, .inl p1, (.inr (.inr 0))]) (wc := []) (w' := []) (r := (some (.inl p0), [], 0, 0)) ?_ ?_ ?_ ?_ ?_ ?_ ?_ ?_ ?_ ?_
  · exact am_sow0 _
  · rfl
  · rfl
  · exact am_sub0 _
  · exact ⟨p0, p1, rfl, rfl, hp⟩
  · rfl
  · rfl
  · rfl
  · exact am_mix0 _
  rfl
theorem rej_checkIndex3 (p0 p1 : Int32) (hp : wpj_checkIndex p0 p1) : am_lf (am_mk (kbj_checkIndex (.inr (.inr 3))) 0 0 0) [] (0, am_L0 [.inl p0, .inl p1] 2, [], [], 0, 0) = some (none, []) := by
  refine am_lf_eq ?_
  generalize am_lf (am_mk (kbj_checkIndex (.inr (.inr 3))) 0 0 0) [] = kt
  refine am_cy (pre := prO_fm) (f := fmO_fm (.inr (.inr 3))) (a' := []) (wc := []) (w' := []) (r := (some (.inr (.inr 3)), [], 0, 0)) ?_ ?_ ?_ ?_ ?_ ?_ ?_ ?_ ?_ ?_
  · exact am_sow0 _
  · rfl
  · rfl
  · exact am_sub0 _
  · exact ⟨rfl, rfl⟩
  · rfl
  · rfl
  · rfl
  · exact am_mix0 _
  refine am_cy (pre := prj_preIndex (.inr (.inr 3))) (f := fmj_preIndex (.inr (.inr 3))) (a' := [.inl p0, .inl p1, (.inr (.inr 3))]) (wc := []) (w' := []) (r := (some (.inl p0), [], 0, 0)) ?_ ?_ ?_ ?_ ?_ ?_ ?_ ?_ ?_ ?_
  · exact am_sow0 _
  · rfl
  · rfl
  · exact am_sub0 _
  · exact ⟨p0, p1, rfl, rfl, hp⟩
  · rfl
  · rfl
  · rfl
  · exact am_mix0 _
  rfl
theorem rnj_checkIndex (fz : am_V) (hfz : fz = .inr (.inr 0) ∨ fz = .inr (.inr 3)) : ∀ (a : List am_V) (w : List am_C), prj_checkIndex a w → ∃ n, am_ev (am_mk (kbj_checkIndex fz) (fmj_checkIndex a w).2.2.1 (fmj_checkIndex a w).2.2.2 w.length) [] n (0, am_L0 a 2, [], w, 0, 0) = some ((fmj_checkIndex a w).1, (fmj_checkIndex a w).2.1) := by
  rintro a w ⟨p0, p1, rfl, rfl, hp⟩
  rcases hfz with rfl | rfl
  · exact am_lf_ev (rej_checkIndex0 p0 p1 hp)
  · exact am_lf_ev (rej_checkIndex3 p0 p1 hp)
theorem rlj_checkIndex : ∀ (a : List am_V) (w : List am_C), prj_checkIndex a w → a.length ≤ 2 := by
  rintro a w ⟨p0, p1, rfl, rfl, hp⟩
  exact Nat.le_of_ble_eq_true rfl
set_option maxRecDepth 100000 in
set_option maxHeartbeats 4000000 in
theorem kmj_checkIndex {l : Launch} {E : (Nat → Prop) → State → Prop} {D : va_G} {ou : Nat → Nat} {ca : Nat → ClassId} {n : Nat} {f : Nat → Int32} {fz : am_V} (hE : hj_E E ou n f fz) : hg_Met l E D ou ca hyj_checkIndex prog_20_method_155_code 2 none 1 (prj_checkIndex) (fmj_checkIndex) := by
  refine am_met (B := kbj_checkIndex fz) (cuts := []) (nt := 5) (by decide +kernel) rfl rfl (hg_tys_ok ca) ?_ (by decide) (rlj_checkIndex) ?_ (fun a w hp => rnj_checkIndex fz hE.2.1 a w hp)
  · exact fun t ht => List.mem_cons_of_mem _ (hg_arr t ht)
  · intro a w hp ad p e R s m args below meth c hR X hEs hnm
    have hR1 : 1 ≤ R.frames ∧ 40 ≤ R.locals := by rw [hR]; exact ⟨Nat.le_refl _, Nat.le_refl _⟩
    have hN := hE.2.2 _ _ hEs
    refine ⟨kdj_checkIndex_ok, fun index ci fi mode hq => (am_no hq).elim, fun index ci fs hq => (am_no hq).elim, fun x v hq => (am_no hq).elim, ?_, fun o t n f hq => (am_no hq).elim, rfl, rfl, by rw [hR]; exact Nat.le_refl _, by rw [hR]; exact Nat.le_refl _⟩
    intro pc sel n0 pre0 f0 hq
    have hz : ∀ q ∈ kij_checkIndex fz, am_CK p l e R s m args below meth c D hn_cl (va_A (am_w ad ou ca w) s.heap.size) ou ca 2 q.1 q.2.2.1 q.2.2.2.1 q.2.2.2.2 := by
      refine am_allc (hj_gs (fz := fz) X (fun _ => by rcases hE.2.1 with h | h <;> rw [h] <;> rfl) hN.2.2.2.2.2 (List.mem_cons_of_mem _ (gw_mem 389 (by decide +kernel))) (kdj_checkIndex_ok (2, .getstatic 1053, 3) (List.mem_of_getElem? (i := 2) rfl))) (am_allc (am_ck_S (n := 3) X hEs hE.1 (kmj_preIndex hE) (hg_good (gw_mem 393 (by decide +kernel))) rfl (List.mem_cons_of_mem _ (gw_mem 85 (by decide +kernel))) (List.mem_cons_of_mem _ (gw_mem 391 (by decide +kernel))) (List.mem_cons_of_mem _ (gw_mem 392 (by decide +kernel))) (by decide +kernel) ⟨Nat.le_trans (by decide) hR1.1, Nat.le_trans (by decide) hR1.2⟩ (kdj_checkIndex_ok (5, .invokestatic 1059, 3) (List.mem_of_getElem? (i := 3) rfl))) (am_all0))
    exact hz _ (am_as_mem hq)
def kdj_l1charAt : List (Nat × Instr × Nat) := [(0, .iload_n 1, 1), (1, .aload_n 0, 1), (2, .arraylength, 1), (3, .invokestatic 9, 3), (6, .aload_n 0, 1), (7, .iload_n 1, 1), (8, .baload, 1), (9, .sipush 255, 3), (12, .iand, 1), (13, .i2c, 1), (14, .ireturn, 1)]
theorem kdj_l1charAt_ok : ∀ q ∈ kdj_l1charAt, decode prog_21_method_2_code q.1 = .ok q.2 := by decide +kernel
def hyj_l1charAt : MethodName := ⟨"java/lang/StringLatin1", "charAt", "([BI)C"⟩
noncomputable def kij_l1charAt (n : Nat) (f : Nat → Int32) : List (Nat × Option (List Nat) × Nat × (List am_V → List am_C → Prop) × am_M) := [(3, some [], 2, prj_checkIndex, fmj_checkIndex)]
noncomputable def kbj_l1charAt (n : Nat) (f : Nat → Int32) : am_B := (kdj_l1charAt, fun _ => none, hn_ty, fun _ => none, fun _ => none, am_as (kij_l1charAt n f), hj_oa n f, 5, 2, (some .char))
noncomputable def fnj_l1charAt (n : Nat) (f : Nat → Int32) (p1 : Int32) : Int32 := Classical.choose (⟨_, rfl⟩ : ∃ z : Int32, z = (((((f (p1).toNatClampNeg) &&& (255 : Int32))).toUInt32 % 65536).toInt32))
theorem fqj_l1charAt (n : Nat) (f : Nat → Int32) (p1 : Int32) : fnj_l1charAt n f p1 = (((((f (p1).toNatClampNeg) &&& (255 : Int32))).toUInt32 % 65536).toInt32) := Classical.choose_spec (⟨_, rfl⟩ : ∃ z : Int32, z = (((((f (p1).toNatClampNeg) &&& (255 : Int32))).toUInt32 % 65536).toInt32))
def wpj_l1charAt (n : Nat) (f : Nat → Int32) (p1 : Int32) : Prop := ((wpj_checkIndex p1 (Int32.ofNat n)) ∧ (am_inb p1 n = true ∧ (am_fit .char (.inl (((((f (p1).toNatClampNeg) &&& (255 : Int32))).toUInt32 % 65536).toInt32)) = true)))
set_option maxRecDepth 100000 in
set_option maxHeartbeats 4000000 in
theorem rej_l1charAt (n : Nat) (f : Nat → Int32) (p1 : Int32) (hp : wpj_l1charAt n f p1) : am_lf (am_mk (kbj_l1charAt n f) 0 0 0) [] (0, am_L0 [.inr (.inr 2), .inl p1] 2, [], [], 0, 0) = some (some (.inl (fnj_l1charAt n f p1)), []) := by
  unfold wpj_l1charAt at hp
  refine am_lf_eq ?_
  generalize am_lf (am_mk (kbj_l1charAt n f) 0 0 0) [] = kt
  refine am_cy (pre := prj_checkIndex) (f := fmj_checkIndex) (a' := [.inl p1, .inl (Int32.ofNat n)]) (wc := []) (w' := []) (r := (none, [], 0, 0)) ?_ ?_ ?_ ?_ ?_ ?_ ?_ ?_ ?_ ?_
  · exact am_sow0 _
  · rfl
  · rfl
  · exact am_sub0 _
  · exact ⟨p1, (Int32.ofNat n), rfl, rfl, hp.1⟩
  · exact fej_checkIndex p1 (Int32.ofNat n)
  · exact rfl
  · rfl
  · exact am_mix0 _
  refine am_ci (c := am_inb p1 n = true) hp.2.1 ?_
  refine am_ci (c := am_fit .char (.inl (((((f (p1).toNatClampNeg) &&& (255 : Int32))).toUInt32 % 65536).toInt32)) = true) hp.2.2 ?_
  have e : fnj_l1charAt n f p1 = (((((f (p1).toNatClampNeg) &&& (255 : Int32))).toUInt32 % 65536).toInt32) := by
    rw [fqj_l1charAt]
  rw [e] <;> rfl
abbrev prj_l1charAt (n : Nat) (f : Nat → Int32) : List am_V → List am_C → Prop := fun a w => ∃ (p1 : Int32), a = [.inr (.inr 2), .inl p1] ∧ w = [] ∧ wpj_l1charAt n f p1
noncomputable def fmj_l1charAt (n : Nat) (f : Nat → Int32) : am_M := fun a w => (fun (z : Int32) => (some (.inl z), [], 0, 0)) (fnj_l1charAt n f (am_i (am_an a 1)))
theorem fej_l1charAt (n : Nat) (f : Nat → Int32) (p1 : Int32) : fmj_l1charAt n f [.inr (.inr 2), .inl p1] [] = (some (.inl (fnj_l1charAt n f p1)), [], 0, 0) := rfl
set_option maxRecDepth 100000 in
set_option maxHeartbeats 4000000 in
theorem rnj_l1charAt (n : Nat) (f : Nat → Int32) : ∀ (a : List am_V) (w : List am_C), prj_l1charAt n f a w → ∃ nq, am_ev (am_mk (kbj_l1charAt n f) (fmj_l1charAt n f a w).2.2.1 (fmj_l1charAt n f a w).2.2.2 w.length) [] nq (0, am_L0 a 2, [], w, 0, 0) = some ((fmj_l1charAt n f a w).1, (fmj_l1charAt n f a w).2.1) := by
  rintro a w ⟨p1, rfl, rfl, hp⟩
  rw [fej_l1charAt n f p1]
  exact am_lf_ev (rej_l1charAt n f p1 hp)
theorem rlj_l1charAt (n : Nat) (f : Nat → Int32) : ∀ (a : List am_V) (w : List am_C), prj_l1charAt n f a w → a.length ≤ 2 := by
  rintro a w ⟨p1, rfl, rfl, hp⟩
  exact Nat.le_of_ble_eq_true rfl
set_option maxRecDepth 100000 in
set_option maxHeartbeats 4000000 in
theorem kmj_l1charAt {l : Launch} {E : (Nat → Prop) → State → Prop} {D : va_G} {ou : Nat → Nat} {ca : Nat → ClassId} {n : Nat} {f : Nat → Int32} {fz : am_V} (hE : hj_E E ou n f fz) : hg_Met l E D ou ca hyj_l1charAt prog_21_method_2_code 2 (some .char) 2 (prj_l1charAt n f) (fmj_l1charAt n f) := by
  refine am_met (B := kbj_l1charAt n f) (cuts := []) (nt := 5) (by decide +kernel) rfl rfl (hg_tys_ok ca) ?_ (by decide) (rlj_l1charAt n f) ?_ (rnj_l1charAt n f)
  · exact fun t ht => List.mem_cons_of_mem _ (hg_arr t ht)
  · intro a w hp ad p e R s m args below meth c hR X hEs hnm
    have hR1 : 2 ≤ R.frames ∧ 80 ≤ R.locals := by rw [hR]; exact ⟨Nat.le_refl _, Nat.le_refl _⟩
    have hN := hE.2.2 _ _ hEs
    refine ⟨kdj_l1charAt_ok, fun index ci fi mode hq => (am_no hq).elim, fun index ci fs hq => (am_no hq).elim, fun x v hq => (am_no hq).elim, ?_, hj_oa_ok hN.2.2.2.1, rfl, rfl, by rw [hR]; exact Nat.le_refl _, by rw [hR]; exact Nat.le_refl _⟩
    intro pc sel n0 pre0 f0 hq
    have hz : ∀ q ∈ kij_l1charAt n f, am_CK p l e R s m args below meth c D hn_cl (va_A (am_w ad ou ca w) s.heap.size) ou ca 2 q.1 q.2.2.1 q.2.2.2.1 q.2.2.2.2 := by
      refine am_allc (am_ck_S (n := 2) X hEs hE.1 (kmj_checkIndex hE) (hg_good (gw_mem 388 (by decide +kernel))) rfl (List.mem_cons_of_mem _ (gw_mem 83 (by decide +kernel))) (List.mem_cons_of_mem _ (gw_mem 386 (by decide +kernel))) (List.mem_cons_of_mem _ (gw_mem 387 (by decide +kernel))) (by decide +kernel) ⟨Nat.le_trans (by decide) hR1.1, Nat.le_trans (by decide) hR1.2⟩ (kdj_l1charAt_ok (3, .invokestatic 9, 3) (List.mem_of_getElem? (i := 3) rfl))) (am_all0)
    exact hz _ (am_as_mem hq)
def kdj_charAt : List (Nat × Instr × Nat) := [(0, .aload_n 0, 1), (1, .invokevirtual 492, 3), (4, .ifCond .eq 12, 3), (7, .aload_n 0, 1), (8, .getfield 9, 3), (11, .iload_n 1, 1), (12, .invokestatic 495, 3), (15, .ireturn, 1)]
theorem kdj_charAt_ok : ∀ q ∈ kdj_charAt, decode prog_20_method_56_code q.1 = .ok q.2 := by decide +kernel
def hyj_charAt : MethodName := ⟨"java/lang/String", "charAt", "(I)C"⟩
noncomputable def kij_charAt (n : Nat) (f : Nat → Int32) : List (Nat × Option (List Nat) × Nat × (List am_V → List am_C → Prop) × am_M) := [(1, some [], 1, prj_isLatin1 n f, fmj_isLatin1 n f), (8, some [], 1, prO_value, fmO_value), (12, some [], 2, prj_l1charAt n f, fmj_l1charAt n f)]
noncomputable def kbj_charAt (n : Nat) (f : Nat → Int32) : am_B := (kdj_charAt, fun _ => none, hn_ty, fun _ => none, fun _ => none, am_as (kij_charAt n f), hj_oa n f, 5, 2, (some .char))
noncomputable def fnj_charAt (n : Nat) (f : Nat → Int32) (p0 : Int32) : Int32 := Classical.choose (⟨_, rfl⟩ : ∃ z : Int32, z = (fnj_l1charAt n f p0))
theorem fqj_charAt (n : Nat) (f : Nat → Int32) (p0 : Int32) : fnj_charAt n f p0 = (fnj_l1charAt n f p0) := Classical.choose_spec (⟨_, rfl⟩ : ∃ z : Int32, z = (fnj_l1charAt n f p0))
def wpj_charAt (n : Nat) (f : Nat → Int32) (p0 : Int32) : Prop := ((wpj_isLatin1 n f) ∧ ((wpj_l1charAt n f p0) ∧ (am_fit .char (.inl (fnj_l1charAt n f p0)) = true)))
set_option maxRecDepth 100000 in
set_option maxHeartbeats 4000000 in
theorem rej_charAt (n : Nat) (f : Nat → Int32) (p0 : Int32) (hp : wpj_charAt n f p0) : am_lf (am_mk (kbj_charAt n f) 0 0 0) [] (0, am_L0 [.inr (.inr 1), .inl p0] 2, [], [], 0, 0) = some (some (.inl (fnj_charAt n f p0)), []) := by
  unfold wpj_charAt at hp
  refine am_lf_eq ?_
  generalize am_lf (am_mk (kbj_charAt n f) 0 0 0) [] = kt
  refine am_cy (pre := prj_isLatin1 n f) (f := fmj_isLatin1 n f) (a' := [.inr (.inr 1)]) (wc := []) (w' := []) (r := (some (.inl (1 : Int32)), [], 0, 0)) ?_ ?_ ?_ ?_ ?_ ?_ ?_ ?_ ?_ ?_
  · exact am_sow0 _
  · rfl
  · rfl
  · exact am_sub0 _
  · exact ⟨rfl, rfl, hp.1⟩
  · exact fej_isLatin1 n f
  · exact rfl
  · rfl
  · exact am_mix0 _
  refine am_cy (pre := prO_value) (f := fmO_value) (a' := [.inr (.inr 1)]) (wc := []) (w' := []) (r := (some (.inr (.inr 2)), [], 0, 0)) ?_ ?_ ?_ ?_ ?_ ?_ ?_ ?_ ?_ ?_
  · exact am_sow0 _
  · rfl
  · rfl
  · exact am_sub0 _
  · exact ⟨rfl, rfl⟩
  · rfl
  · rfl
  · rfl
  · exact am_mix0 _
  refine am_cy (pre := prj_l1charAt n f) (f := fmj_l1charAt n f) (a' := [.inr (.inr 2), .inl p0]) (wc := []) (w' := []) (r := (some (.inl (fnj_l1charAt n f p0)), [], 0, 0)) ?_ ?_ ?_ ?_ ?_ ?_ ?_ ?_ ?_ ?_
  · exact am_sow0 _
  · rfl
  · rfl
  · exact am_sub0 _
  · exact ⟨p0, rfl, rfl, hp.2.1⟩
  · exact fej_l1charAt n f p0
  · exact rfl
  · rfl
  · exact am_mix0 _
  refine am_ci (c := am_fit .char (.inl (fnj_l1charAt n f p0)) = true) hp.2.2 ?_
  have e : fnj_charAt n f p0 = (fnj_l1charAt n f p0) := by
    rw [fqj_charAt]
  rw [e] <;> rfl
abbrev prj_charAt (n : Nat) (f : Nat → Int32) : List am_V → List am_C → Prop := fun a w => ∃ (p0 : Int32), a = [.inr (.inr 1), .inl p0] ∧ w = [] ∧ wpj_charAt n f p0
noncomputable def fmj_charAt (n : Nat) (f : Nat → Int32) : am_M := fun a w => (fun (z : Int32) => (some (.inl z), [], 0, 0)) (fnj_charAt n f (am_i (am_an a 1)))
theorem fej_charAt (n : Nat) (f : Nat → Int32) (p0 : Int32) : fmj_charAt n f [.inr (.inr 1), .inl p0] [] = (some (.inl (fnj_charAt n f p0)), [], 0, 0) := rfl
set_option maxRecDepth 100000 in
set_option maxHeartbeats 4000000 in
theorem rnj_charAt (n : Nat) (f : Nat → Int32) : ∀ (a : List am_V) (w : List am_C), prj_charAt n f a w → ∃ nq, am_ev (am_mk (kbj_charAt n f) (fmj_charAt n f a w).2.2.1 (fmj_charAt n f a w).2.2.2 w.length) [] nq (0, am_L0 a 2, [], w, 0, 0) = some ((fmj_charAt n f a w).1, (fmj_charAt n f a w).2.1) := by
  rintro a w ⟨p0, rfl, rfl, hp⟩
  rw [fej_charAt n f p0]
  exact am_lf_ev (rej_charAt n f p0 hp)
theorem rlj_charAt (n : Nat) (f : Nat → Int32) : ∀ (a : List am_V) (w : List am_C), prj_charAt n f a w → a.length ≤ 2 := by
  rintro a w ⟨p0, rfl, rfl, hp⟩
  exact Nat.le_of_ble_eq_true rfl
theorem paj_charAt (n : Nat) (f : Nat → Int32) : ∀ a w, prj_charAt n f a w → ∃ a', a = .inr (.inr 1) :: a' := by
  rintro a w ⟨p0, rfl, rfl, hp⟩
  exact ⟨_, rfl⟩
set_option maxRecDepth 100000 in
set_option maxHeartbeats 4000000 in
theorem kmj_charAt {l : Launch} {E : (Nat → Prop) → State → Prop} {D : va_G} {ou : Nat → Nat} {ca : Nat → ClassId} {n : Nat} {f : Nat → Int32} {fz : am_V} (hE : hj_E E ou n f fz) : hg_Met l E D ou ca hyj_charAt prog_20_method_56_code 2 (some .char) 3 (prj_charAt n f) (fmj_charAt n f) := by
  refine am_met (B := kbj_charAt n f) (cuts := []) (nt := 5) (by decide +kernel) rfl rfl (hg_tys_ok ca) ?_ (by decide) (rlj_charAt n f) ?_ (rnj_charAt n f)
  · exact fun t ht => List.mem_cons_of_mem _ (hg_arr t ht)
  · intro a w hp ad p e R s m args below meth c hR X hEs hnm
    have hR1 : 3 ≤ R.frames ∧ 120 ≤ R.locals := by rw [hR]; exact ⟨Nat.le_refl _, Nat.le_refl _⟩
    have hN := hE.2.2 _ _ hEs
    refine ⟨kdj_charAt_ok, fun index ci fi mode hq => (am_no hq).elim, fun index ci fs hq => (am_no hq).elim, fun x v hq => (am_no hq).elim, ?_, hj_oa_ok hN.2.2.2.1, rfl, rfl, by rw [hR]; exact Nat.le_refl _, by rw [hR]; exact Nat.le_refl _⟩
    intro pc sel n0 pre0 f0 hq
    have hz : ∀ q ∈ kij_charAt n f, am_CK p l e R s m args below meth c D hn_cl (va_A (am_w ad ou ca w) s.heap.size) ou ca 2 q.1 q.2.2.1 q.2.2.2.1 q.2.2.2.2 := by
      refine am_allc (am_ck_VO (n := 0) X hEs hE.1 (kmj_isLatin1 hE) (hg_good (gw_mem 382 (by decide +kernel))) rfl (List.mem_cons_of_mem _ (gw_mem 83 (by decide +kernel))) (List.mem_cons_of_mem _ (gw_mem 379 (by decide +kernel))) (List.mem_cons_of_mem _ (gw_mem 380 (by decide +kernel))) (List.mem_cons_of_mem _ (gw_mem 381 (by decide +kernel))) hN.1 (paj_isLatin1 n f) (by decide +kernel) ⟨Nat.le_trans (by decide) hR1.1, Nat.le_trans (by decide) hR1.2⟩ (kdj_charAt_ok (1, .invokevirtual 492, 3) (List.mem_of_getElem? (i := 1) rfl))) (am_allc (hj_gf (v := .inr (.inr 2)) X (fun _ => rfl) hN.2.2.1 (List.mem_cons_of_mem _ (gw_mem 1377 (by decide +kernel))) (kdj_charAt_ok (8, .getfield 9, 3) (List.mem_of_getElem? (i := 4) rfl))) (am_allc (am_ck_S (n := 2) X hEs hE.1 (kmj_l1charAt hE) (hg_good (gw_mem 385 (by decide +kernel))) rfl (List.mem_cons_of_mem _ (gw_mem 84 (by decide +kernel))) (List.mem_cons_of_mem _ (gw_mem 383 (by decide +kernel))) (List.mem_cons_of_mem _ (gw_mem 384 (by decide +kernel))) (by decide +kernel) ⟨Nat.le_trans (by decide) hR1.1, Nat.le_trans (by decide) hR1.2⟩ (kdj_charAt_ok (12, .invokestatic 495, 3) (List.mem_of_getElem? (i := 6) rfl))) (am_all0)))
    exact hz _ (am_as_mem hq)
def kdj_canEncode : List (Nat × Instr × Nat) := [(0, .iload_n 0, 1), (1, .ifCond .lt 14, 3), (4, .iload_n 0, 1), (5, .sipush 255, 3), (8, .if_icmp .gt 7, 3), (11, .iconst 1, 1), (12, .goto 4, 3), (15, .iconst 0, 1), (16, .ireturn, 1)]
theorem kdj_canEncode_ok : ∀ q ∈ kdj_canEncode, decode prog_21_method_4_code q.1 = .ok q.2 := by decide +kernel
def hyj_canEncode : MethodName := ⟨"java/lang/StringLatin1", "canEncode", "(I)Z"⟩
noncomputable def kij_canEncode : List (Nat × Option (List Nat) × Nat × (List am_V → List am_C → Prop) × am_M) := []
noncomputable def kbj_canEncode : am_B := (kdj_canEncode, fun _ => none, hn_ty, fun _ => none, fun _ => none, am_as kij_canEncode, fun _ => none, 5, 1, (some .boolean))
noncomputable def fnj_canEncode (p0 : Int32) : Int32 := Classical.choose (⟨_, rfl⟩ : ∃ z : Int32, z = (if p0 < 0 then (0 : Int32) else (if (255 : Int32) < p0 then (0 : Int32) else (1 : Int32))))
theorem fqj_canEncode (p0 : Int32) : fnj_canEncode p0 = (if p0 < 0 then (0 : Int32) else (if (255 : Int32) < p0 then (0 : Int32) else (1 : Int32))) := Classical.choose_spec (⟨_, rfl⟩ : ∃ z : Int32, z = (if p0 < 0 then (0 : Int32) else (if (255 : Int32) < p0 then (0 : Int32) else (1 : Int32))))
def wpj_canEncode (p0 : Int32) : Prop := True
set_option maxRecDepth 100000 in
set_option maxHeartbeats 4000000 in
theorem rej_canEncode (p0 : Int32) (hp : wpj_canEncode p0) : am_lf (am_mk kbj_canEncode 0 0 0) [] (0, am_L0 [.inl p0] 1, [], [], 0, 0) = some (some (.inl (fnj_canEncode p0)), []) := by
  unfold wpj_canEncode at hp
  refine am_lf_eq ?_
  generalize am_lf (am_mk kbj_canEncode 0 0 0) [] = kt
  refine am_if (c := p0 < 0) (fun h1 => ?_) (fun h1 => ?_)
  · have e : fnj_canEncode p0 = (0 : Int32) := by
      rw [fqj_canEncode]
      rw [if_pos h1]
    rw [e] <;> rfl
  · refine am_if (c := (255 : Int32) < p0) (fun h2 => ?_) (fun h2 => ?_)
    · have e : fnj_canEncode p0 = (0 : Int32) := by
        rw [fqj_canEncode]
        rw [if_neg h1, if_pos h2]
      rw [e] <;> rfl
    · have e : fnj_canEncode p0 = (1 : Int32) := by
        rw [fqj_canEncode]
        rw [if_neg h1, if_neg h2]
      rw [e] <;> rfl
abbrev prj_canEncode : List am_V → List am_C → Prop := fun a w => ∃ (p0 : Int32), a = [.inl p0] ∧ w = [] ∧ wpj_canEncode p0
noncomputable def fmj_canEncode : am_M := fun a w => (fun (z : Int32) => (some (.inl z), [], 0, 0)) (fnj_canEncode (am_i (am_an a 0)))
theorem fej_canEncode (p0 : Int32) : fmj_canEncode [.inl p0] [] = (some (.inl (fnj_canEncode p0)), [], 0, 0) := rfl
set_option maxRecDepth 100000 in
set_option maxHeartbeats 4000000 in
theorem rnj_canEncode : ∀ (a : List am_V) (w : List am_C), prj_canEncode a w → ∃ nq, am_ev (am_mk kbj_canEncode (fmj_canEncode a w).2.2.1 (fmj_canEncode a w).2.2.2 w.length) [] nq (0, am_L0 a 1, [], w, 0, 0) = some ((fmj_canEncode a w).1, (fmj_canEncode a w).2.1) := by
  rintro a w ⟨p0, rfl, rfl, hp⟩
  rw [fej_canEncode p0]
  exact am_lf_ev (rej_canEncode p0 hp)
theorem rlj_canEncode : ∀ (a : List am_V) (w : List am_C), prj_canEncode a w → a.length ≤ 1 := by
  rintro a w ⟨p0, rfl, rfl, hp⟩
  exact Nat.le_of_ble_eq_true rfl
set_option maxRecDepth 100000 in
set_option maxHeartbeats 4000000 in
theorem kmj_canEncode {l : Launch} {E : (Nat → Prop) → State → Prop} {D : va_G} {ou : Nat → Nat} {ca : Nat → ClassId} {n : Nat} {f : Nat → Int32} {fz : am_V} (hE : hj_E E ou n f fz) : hg_Met l E D ou ca hyj_canEncode prog_21_method_4_code 1 (some .boolean) 0 (prj_canEncode) (fmj_canEncode) := by
  refine am_met (B := kbj_canEncode) (cuts := []) (nt := 5) (by decide +kernel) rfl rfl (hg_tys_ok ca) ?_ (by decide) (rlj_canEncode) ?_ (rnj_canEncode)
  · exact fun t ht => List.mem_cons_of_mem _ (hg_arr t ht)
  · intro a w hp ad p e R s m args below meth c hR X hEs hnm
    have hR1 : 0 ≤ R.frames ∧ 0 ≤ R.locals := by rw [hR]; exact ⟨Nat.le_refl _, Nat.le_refl _⟩
    have hN := hE.2.2 _ _ hEs
    refine ⟨kdj_canEncode_ok, fun index ci fi mode hq => (am_no hq).elim, fun index ci fs hq => (am_no hq).elim, fun x v hq => (am_no hq).elim, ?_, fun o t n f hq => (am_no hq).elim, rfl, rfl, by rw [hR]; exact Nat.le_refl _, by rw [hR]; exact Nat.le_refl _⟩
    intro pc sel n0 pre0 f0 hq
    exact (am_no hq).elim
def kdj_ixChar : List (Nat × Instr × Nat) := [(0, .iload_n 1, 1), (1, .i2b, 1), (2, .istore 4, 2), (4, .iload_n 2, 1), (5, .istore 5, 2), (7, .iload 5, 2), (9, .iload_n 3, 1), (10, .if_icmp .ge 21, 3), (13, .aload_n 0, 1), (14, .iload 5, 2), (16, .baload, 1), (17, .iload 4, 2), (19, .if_icmp .ne 6, 3), (22, .iload 5, 2), (24, .ireturn, 1), (25, .iinc 5 1, 3), (28, .goto (-21), 3), (31, .iconst (-1), 1), (32, .ireturn, 1)]
theorem kdj_ixChar_ok : ∀ q ∈ kdj_ixChar, decode prog_21_method_23_code q.1 = .ok q.2 := by decide +kernel
def hyj_ixChar : MethodName := ⟨"java/lang/StringLatin1", "indexOfChar", "([BIII)I"⟩
noncomputable def kij_ixChar (n : Nat) (f : Nat → Int32) : List (Nat × Option (List Nat) × Nat × (List am_V → List am_C → Prop) × am_M) := []
noncomputable def kbj_ixChar (n : Nat) (f : Nat → Int32) : am_B := (kdj_ixChar, fun _ => none, hn_ty, fun _ => none, fun _ => none, am_as (kij_ixChar n f), hj_oa n f, 5, 6, (some .int))
noncomputable def fnj_ixChar_c7 : Nat → (Nat) → (Nat → Int32) → Int32 → Int32 → Int32 → Int32
  | 0, _, _, _, _, _ => 0
  | fu + 1, n, f, v3, v4, v5 => (if v3 ≤ v5 then (-1 : Int32) else (if (f (v5).toNatClampNeg) = v4 then v5 else (fnj_ixChar_c7 fu n f v3 v4 (v5 + (1 : Int32)))))
def wpj_ixChar_c7 : Nat → (Nat) → (Nat → Int32) → Int32 → Int32 → Int32 → Prop
  | 0, _, _, _, _, _ => False
  | fu + 1, n, f, v3, v4, v5 => ((v3 ≤ v5 → True) ∧ (¬ v3 ≤ v5 → (am_inb v5 n = true ∧ (((f (v5).toNatClampNeg) = v4 → True) ∧ (¬ (f (v5).toNatClampNeg) = v4 → (wpj_ixChar_c7 fu n f v3 v4 (v5 + (1 : Int32))))))))
set_option maxRecDepth 100000 in
set_option maxHeartbeats 4000000 in
theorem rcj_ixChar_7 (n : Nat) (f : Nat → Int32) : ∀ (fu : Nat) (v3 : Int32) (v4 : Int32) (v5 : Int32) (j1 : Option am_V) (j2 : Option am_V) (g1 : am_loO 0 j1 = true) (g2 : am_loO 0 j2 = true) , wpj_ixChar_c7 fu n f v3 v4 v5 → am_lf (am_mk (kbj_ixChar n f) 0 0 0) [7] (7, [some (.inr (.inr 2)), j1, j2, some (.inl v3), some (.inl v4), some (.inl v5)], [], [], 0, 0) = some (some (.inl (fnj_ixChar_c7 fu n f v3 v4 v5)), []) := by
  intro fu
  induction fu with
  | zero =>
    intro v3 v4 v5 j1 j2 g1 g2 hp
    exact hp.elim
  | succ fu ih =>
    intro v3 v4 v5 j1 j2 g1 g2 hp
    unfold wpj_ixChar_c7 at hp
    refine am_lf_eq ?_
    generalize am_lf (am_mk (kbj_ixChar n f) 0 0 0) [7] = kt at ih ⊢
    refine am_if (c := v3 ≤ v5) (fun h2 => ?_) (fun h2 => ?_)
    · have e : fnj_ixChar_c7 (fu + 1) n f v3 v4 v5 = (-1 : Int32) := by
        rw [fnj_ixChar_c7]
        rw [if_pos h2]
      rw [e] <;> rfl
    · have q2 := hp.2 h2
      refine am_ci (c := am_inb v5 n = true) q2.1 ?_
      refine am_if (c := (f (v5).toNatClampNeg) = v4) (fun h3 => ?_) (fun h3 => ?_)
      · have e : fnj_ixChar_c7 (fu + 1) n f v3 v4 v5 = v5 := by
          rw [fnj_ixChar_c7]
          rw [if_neg h2, if_pos h3]
        rw [e] <;> rfl
      · have q3 := q2.2.2 h3
        have e : fnj_ixChar_c7 (fu + 1) n f v3 v4 v5 = fnj_ixChar_c7 fu n f v3 v4 (v5 + (1 : Int32)) := by
          rw [fnj_ixChar_c7]
          rw [if_neg h2, if_neg h3]
        rw [e]
        exact ih v3 v4 (v5 + (1 : Int32)) _ _ g1 g2 q3
noncomputable def fnj_ixChar (n : Nat) (f : Nat → Int32) (p1 : Int32) (p2 : Int32) (p3 : Int32) : Int32 := Classical.choose (⟨_, rfl⟩ : ∃ z : Int32, z = (fnj_ixChar_c7 hg_fu n f p3 ((p1).toInt8.toInt32) p2))
theorem fqj_ixChar (n : Nat) (f : Nat → Int32) (p1 : Int32) (p2 : Int32) (p3 : Int32) : fnj_ixChar n f p1 p2 p3 = (fnj_ixChar_c7 hg_fu n f p3 ((p1).toInt8.toInt32) p2) := Classical.choose_spec (⟨_, rfl⟩ : ∃ z : Int32, z = (fnj_ixChar_c7 hg_fu n f p3 ((p1).toInt8.toInt32) p2))
def wpj_ixChar (n : Nat) (f : Nat → Int32) (p1 : Int32) (p2 : Int32) (p3 : Int32) : Prop := (wpj_ixChar_c7 hg_fu n f p3 ((p1).toInt8.toInt32) p2)
set_option maxRecDepth 100000 in
set_option maxHeartbeats 4000000 in
theorem rej_ixChar (n : Nat) (f : Nat → Int32) (p1 : Int32) (p2 : Int32) (p3 : Int32) (hp : wpj_ixChar n f p1 p2 p3) : am_lf (am_mk (kbj_ixChar n f) 0 0 0) [7] (0, am_L0 [.inr (.inr 2), .inl p1, .inl p2, .inl p3] 6, [], [], 0, 0) = some (some (.inl (fnj_ixChar n f p1 p2 p3)), []) := by
  unfold wpj_ixChar at hp
  have i7 := @rcj_ixChar_7 n f
  refine am_lf_eq ?_
  generalize am_lf (am_mk (kbj_ixChar n f) 0 0 0) [7] = kt at i7 ⊢
  have e : fnj_ixChar n f p1 p2 p3 = fnj_ixChar_c7 hg_fu n f p3 ((p1).toInt8.toInt32) p2 := by
    rw [fqj_ixChar]
  rw [e]
  exact i7 hg_fu p3 ((p1).toInt8.toInt32) p2 _ _ rfl rfl hp
abbrev prj_ixChar (n : Nat) (f : Nat → Int32) : List am_V → List am_C → Prop := fun a w => ∃ (p1 : Int32) (p2 : Int32) (p3 : Int32), a = [.inr (.inr 2), .inl p1, .inl p2, .inl p3] ∧ w = [] ∧ wpj_ixChar n f p1 p2 p3
noncomputable def fmj_ixChar (n : Nat) (f : Nat → Int32) : am_M := fun a w => (fun (z : Int32) => (some (.inl z), [], 0, 0)) (fnj_ixChar n f (am_i (am_an a 1)) (am_i (am_an a 2)) (am_i (am_an a 3)))
theorem fej_ixChar (n : Nat) (f : Nat → Int32) (p1 : Int32) (p2 : Int32) (p3 : Int32) : fmj_ixChar n f [.inr (.inr 2), .inl p1, .inl p2, .inl p3] [] = (some (.inl (fnj_ixChar n f p1 p2 p3)), [], 0, 0) := rfl
set_option maxRecDepth 100000 in
set_option maxHeartbeats 4000000 in
theorem rnj_ixChar (n : Nat) (f : Nat → Int32) : ∀ (a : List am_V) (w : List am_C), prj_ixChar n f a w → ∃ nq, am_ev (am_mk (kbj_ixChar n f) (fmj_ixChar n f a w).2.2.1 (fmj_ixChar n f a w).2.2.2 w.length) [7] nq (0, am_L0 a 6, [], w, 0, 0) = some ((fmj_ixChar n f a w).1, (fmj_ixChar n f a w).2.1) := by
  rintro a w ⟨p1, p2, p3, rfl, rfl, hp⟩
  rw [fej_ixChar n f p1 p2 p3]
  exact am_lf_ev (rej_ixChar n f p1 p2 p3 hp)
theorem rlj_ixChar (n : Nat) (f : Nat → Int32) : ∀ (a : List am_V) (w : List am_C), prj_ixChar n f a w → a.length ≤ 6 := by
  rintro a w ⟨p1, p2, p3, rfl, rfl, hp⟩
  exact Nat.le_of_ble_eq_true rfl
set_option maxRecDepth 100000 in
set_option maxHeartbeats 4000000 in
theorem kmj_ixChar {l : Launch} {E : (Nat → Prop) → State → Prop} {D : va_G} {ou : Nat → Nat} {ca : Nat → ClassId} {n : Nat} {f : Nat → Int32} {fz : am_V} (hE : hj_E E ou n f fz) : hg_Met l E D ou ca hyj_ixChar prog_21_method_23_code 6 (some .int) 0 (prj_ixChar n f) (fmj_ixChar n f) := by
  refine am_met (B := kbj_ixChar n f) (cuts := [7]) (nt := 5) (by decide +kernel) rfl rfl (hg_tys_ok ca) ?_ (by decide) (rlj_ixChar n f) ?_ (rnj_ixChar n f)
  · exact fun t ht => List.mem_cons_of_mem _ (hg_arr t ht)
  · intro a w hp ad p e R s m args below meth c hR X hEs hnm
    have hR1 : 0 ≤ R.frames ∧ 0 ≤ R.locals := by rw [hR]; exact ⟨Nat.le_refl _, Nat.le_refl _⟩
    have hN := hE.2.2 _ _ hEs
    refine ⟨kdj_ixChar_ok, fun index ci fi mode hq => (am_no hq).elim, fun index ci fs hq => (am_no hq).elim, fun x v hq => (am_no hq).elim, ?_, hj_oa_ok hN.2.2.2.1, rfl, rfl, by rw [hR]; exact Nat.le_refl _, by rw [hR]; exact Nat.le_refl _⟩
    intro pc sel n0 pre0 f0 hq
    exact (am_no hq).elim
def kdj_l1ix : List (Nat × Instr × Nat) := [(0, .iload_n 1, 1), (1, .invokestatic 88, 3), (4, .ifCond .ne 5, 3), (7, .iconst (-1), 1), (8, .ireturn, 1), (9, .iload_n 2, 1), (10, .iconst 0, 1), (11, .invokestatic 92, 3), (14, .istore_n 2, 1), (15, .iload_n 3, 1), (16, .aload_n 0, 1), (17, .arraylength, 1), (18, .invokestatic 38, 3), (21, .istore_n 3, 1), (22, .iload_n 2, 1), (23, .iload_n 3, 1), (24, .if_icmp .lt 5, 3), (27, .iconst (-1), 1), (28, .ireturn, 1), (29, .aload_n 0, 1), (30, .iload_n 1, 1), (31, .iload_n 2, 1), (32, .iload_n 3, 1), (33, .invokestatic 95, 3), (36, .ireturn, 1)]
theorem kdj_l1ix_ok : ∀ q ∈ kdj_l1ix, decode prog_21_method_22_code q.1 = .ok q.2 := by decide +kernel
def hyj_l1ix : MethodName := ⟨"java/lang/StringLatin1", "indexOf", "([BIII)I"⟩
noncomputable def kij_l1ix (n : Nat) (f : Nat → Int32) : List (Nat × Option (List Nat) × Nat × (List am_V → List am_C → Prop) × am_M) := [(1, some [], 1, prj_canEncode, fmj_canEncode), (11, some [], 2, prJ_max, fmJ_max), (18, some [], 2, prJ_min, fmJ_min), (33, some [], 4, prj_ixChar n f, fmj_ixChar n f)]
noncomputable def kbj_l1ix (n : Nat) (f : Nat → Int32) : am_B := (kdj_l1ix, fun _ => none, hn_ty, fun _ => none, fun _ => none, am_as (kij_l1ix n f), hj_oa n f, 5, 4, (some .int))
noncomputable def fnj_l1ix (n : Nat) (f : Nat → Int32) (p1 : Int32) (p2 : Int32) (p3 : Int32) : Int32 := Classical.choose (⟨_, rfl⟩ : ∃ z : Int32, z = (if (fnj_canEncode p1) = 0 then (-1 : Int32) else (if (fnJ_max p2 (0 : Int32)) < (fnJ_min p3 (Int32.ofNat n)) then (fnj_ixChar n f p1 (fnJ_max p2 (0 : Int32)) (fnJ_min p3 (Int32.ofNat n))) else (-1 : Int32))))
theorem fqj_l1ix (n : Nat) (f : Nat → Int32) (p1 : Int32) (p2 : Int32) (p3 : Int32) : fnj_l1ix n f p1 p2 p3 = (if (fnj_canEncode p1) = 0 then (-1 : Int32) else (if (fnJ_max p2 (0 : Int32)) < (fnJ_min p3 (Int32.ofNat n)) then (fnj_ixChar n f p1 (fnJ_max p2 (0 : Int32)) (fnJ_min p3 (Int32.ofNat n))) else (-1 : Int32))) := Classical.choose_spec (⟨_, rfl⟩ : ∃ z : Int32, z = (if (fnj_canEncode p1) = 0 then (-1 : Int32) else (if (fnJ_max p2 (0 : Int32)) < (fnJ_min p3 (Int32.ofNat n)) then (fnj_ixChar n f p1 (fnJ_max p2 (0 : Int32)) (fnJ_min p3 (Int32.ofNat n))) else (-1 : Int32))))
def wpj_l1ix (n : Nat) (f : Nat → Int32) (p1 : Int32) (p2 : Int32) (p3 : Int32) : Prop := ((wpj_canEncode p1) ∧ (((fnj_canEncode p1) = 0 → True) ∧ (¬ (fnj_canEncode p1) = 0 → ((wpJ_max p2 (0 : Int32)) ∧ ((wpJ_min p3 (Int32.ofNat n)) ∧ (((fnJ_max p2 (0 : Int32)) < (fnJ_min p3 (Int32.ofNat n)) → (wpj_ixChar n f p1 (fnJ_max p2 (0 : Int32)) (fnJ_min p3 (Int32.ofNat n)))) ∧ (¬ (fnJ_max p2 (0 : Int32)) < (fnJ_min p3 (Int32.ofNat n)) → True)))))))
set_option maxRecDepth 100000 in
set_option maxHeartbeats 4000000 in
theorem rej_l1ix (n : Nat) (f : Nat → Int32) (p1 : Int32) (p2 : Int32) (p3 : Int32) (hp : wpj_l1ix n f p1 p2 p3) : am_lf (am_mk (kbj_l1ix n f) 0 0 0) [] (0, am_L0 [.inr (.inr 2), .inl p1, .inl p2, .inl p3] 4, [], [], 0, 0) = some (some (.inl (fnj_l1ix n f p1 p2 p3)), []) := by
  unfold wpj_l1ix at hp
  refine am_lf_eq ?_
  generalize am_lf (am_mk (kbj_l1ix n f) 0 0 0) [] = kt
  refine am_cy (pre := prj_canEncode) (f := fmj_canEncode) (a' := [.inl p1]) (wc := []) (w' := []) (r := (some (.inl (fnj_canEncode p1)), [], 0, 0)) ?_ ?_ ?_ ?_ ?_ ?_ ?_ ?_ ?_ ?_
  · exact am_sow0 _
  · rfl
  · rfl
  · exact am_sub0 _
  · exact ⟨p1, rfl, rfl, hp.1⟩
  · exact fej_canEncode p1
  · exact rfl
  · rfl
  · exact am_mix0 _
  refine am_if (c := (fnj_canEncode p1) = 0) (fun h1 => ?_) (fun h1 => ?_)
  · have e : fnj_l1ix n f p1 p2 p3 = (-1 : Int32) := by
      rw [fqj_l1ix]
      rw [if_pos h1]
    rw [e] <;> rfl
  · have q1 := hp.2.2 h1
    refine am_cy (pre := prJ_max) (f := fmJ_max) (a' := [.inl p2, .inl (0 : Int32)]) (wc := []) (w' := []) (r := (some (.inl (fnJ_max p2 (0 : Int32))), [], 0, 0)) ?_ ?_ ?_ ?_ ?_ ?_ ?_ ?_ ?_ ?_
    · exact am_sow0 _
    · rfl
    · rfl
    · exact am_sub0 _
    · exact ⟨p2, (0 : Int32), rfl, rfl, q1.1⟩
    · exact feJ_max p2 (0 : Int32)
    · exact rfl
    · rfl
    · exact am_mix0 _
    refine am_cy (pre := prJ_min) (f := fmJ_min) (a' := [.inl p3, .inl (Int32.ofNat n)]) (wc := []) (w' := []) (r := (some (.inl (fnJ_min p3 (Int32.ofNat n))), [], 0, 0)) ?_ ?_ ?_ ?_ ?_ ?_ ?_ ?_ ?_ ?_
    · exact am_sow0 _
    · rfl
    · rfl
    · exact am_sub0 _
    · exact ⟨p3, (Int32.ofNat n), rfl, rfl, q1.2.1⟩
    · exact feJ_min p3 (Int32.ofNat n)
    · exact rfl
    · rfl
    · exact am_mix0 _
    refine am_if (c := (fnJ_max p2 (0 : Int32)) < (fnJ_min p3 (Int32.ofNat n))) (fun h2 => ?_) (fun h2 => ?_)
    · have q2 := q1.2.2.1 h2
      refine am_cy (pre := prj_ixChar n f) (f := fmj_ixChar n f) (a' := [.inr (.inr 2), .inl p1, .inl (fnJ_max p2 (0 : Int32)), .inl (fnJ_min p3 (Int32.ofNat n))]) (wc := []) (w' := []) (r := (some (.inl (fnj_ixChar n f p1 (fnJ_max p2 (0 : Int32)) (fnJ_min p3 (Int32.ofNat n)))), [], 0, 0)) ?_ ?_ ?_ ?_ ?_ ?_ ?_ ?_ ?_ ?_
      · exact am_sow0 _
      · rfl
      · rfl
      · exact am_sub0 _
      · exact ⟨p1, (fnJ_max p2 (0 : Int32)), (fnJ_min p3 (Int32.ofNat n)), rfl, rfl, q2⟩
      · exact fej_ixChar n f p1 (fnJ_max p2 (0 : Int32)) (fnJ_min p3 (Int32.ofNat n))
      · exact rfl
      · rfl
      · exact am_mix0 _
      have e : fnj_l1ix n f p1 p2 p3 = (fnj_ixChar n f p1 (fnJ_max p2 (0 : Int32)) (fnJ_min p3 (Int32.ofNat n))) := by
        rw [fqj_l1ix]
        rw [if_neg h1, if_pos h2]
      rw [e] <;> rfl
    · have e : fnj_l1ix n f p1 p2 p3 = (-1 : Int32) := by
        rw [fqj_l1ix]
        rw [if_neg h1, if_neg h2]
      rw [e] <;> rfl
abbrev prj_l1ix (n : Nat) (f : Nat → Int32) : List am_V → List am_C → Prop := fun a w => ∃ (p1 : Int32) (p2 : Int32) (p3 : Int32), a = [.inr (.inr 2), .inl p1, .inl p2, .inl p3] ∧ w = [] ∧ wpj_l1ix n f p1 p2 p3
noncomputable def fmj_l1ix (n : Nat) (f : Nat → Int32) : am_M := fun a w => (fun (z : Int32) => (some (.inl z), [], 0, 0)) (fnj_l1ix n f (am_i (am_an a 1)) (am_i (am_an a 2)) (am_i (am_an a 3)))
theorem fej_l1ix (n : Nat) (f : Nat → Int32) (p1 : Int32) (p2 : Int32) (p3 : Int32) : fmj_l1ix n f [.inr (.inr 2), .inl p1, .inl p2, .inl p3] [] = (some (.inl (fnj_l1ix n f p1 p2 p3)), [], 0, 0) := rfl
set_option maxRecDepth 100000 in
set_option maxHeartbeats 4000000 in
theorem rnj_l1ix (n : Nat) (f : Nat → Int32) : ∀ (a : List am_V) (w : List am_C), prj_l1ix n f a w → ∃ nq, am_ev (am_mk (kbj_l1ix n f) (fmj_l1ix n f a w).2.2.1 (fmj_l1ix n f a w).2.2.2 w.length) [] nq (0, am_L0 a 4, [], w, 0, 0) = some ((fmj_l1ix n f a w).1, (fmj_l1ix n f a w).2.1) := by
  rintro a w ⟨p1, p2, p3, rfl, rfl, hp⟩
  rw [fej_l1ix n f p1 p2 p3]
  exact am_lf_ev (rej_l1ix n f p1 p2 p3 hp)
theorem rlj_l1ix (n : Nat) (f : Nat → Int32) : ∀ (a : List am_V) (w : List am_C), prj_l1ix n f a w → a.length ≤ 4 := by
  rintro a w ⟨p1, p2, p3, rfl, rfl, hp⟩
  exact Nat.le_of_ble_eq_true rfl
set_option maxRecDepth 100000 in
set_option maxHeartbeats 4000000 in
theorem kmj_l1ix {l : Launch} {E : (Nat → Prop) → State → Prop} {D : va_G} {ou : Nat → Nat} {ca : Nat → ClassId} {n : Nat} {f : Nat → Int32} {fz : am_V} (hE : hj_E E ou n f fz) : hg_Met l E D ou ca hyj_l1ix prog_21_method_22_code 4 (some .int) 1 (prj_l1ix n f) (fmj_l1ix n f) := by
  refine am_met (B := kbj_l1ix n f) (cuts := []) (nt := 5) (by decide +kernel) rfl rfl (hg_tys_ok ca) ?_ (by decide) (rlj_l1ix n f) ?_ (rnj_l1ix n f)
  · exact fun t ht => List.mem_cons_of_mem _ (hg_arr t ht)
  · intro a w hp ad p e R s m args below meth c hR X hEs hnm
    have hR1 : 1 ≤ R.frames ∧ 40 ≤ R.locals := by rw [hR]; exact ⟨Nat.le_refl _, Nat.le_refl _⟩
    have hN := hE.2.2 _ _ hEs
    refine ⟨kdj_l1ix_ok, fun index ci fi mode hq => (am_no hq).elim, fun index ci fs hq => (am_no hq).elim, fun x v hq => (am_no hq).elim, ?_, hj_oa_ok hN.2.2.2.1, rfl, rfl, by rw [hR]; exact Nat.le_refl _, by rw [hR]; exact Nat.le_refl _⟩
    intro pc sel n0 pre0 f0 hq
    have hz : ∀ q ∈ kij_l1ix n f, am_CK p l e R s m args below meth c D hn_cl (va_A (am_w ad ou ca w) s.heap.size) ou ca 4 q.1 q.2.2.1 q.2.2.2.1 q.2.2.2.2 := by
      refine am_allc (am_ck_S (n := 1) X hEs hE.1 (kmj_canEncode hE) (hg_good (gw_mem 841 (by decide +kernel))) rfl (List.mem_cons_of_mem _ (gw_mem 84 (by decide +kernel))) (List.mem_cons_of_mem _ (gw_mem 839 (by decide +kernel))) (List.mem_cons_of_mem _ (gw_mem 840 (by decide +kernel))) (by decide +kernel) ⟨Nat.le_trans (by decide) hR1.1, Nat.le_trans (by decide) hR1.2⟩ (kdj_l1ix_ok (1, .invokestatic 88, 3) (List.mem_of_getElem? (i := 1) rfl))) (am_allc (am_ck_max X (List.mem_cons_of_mem _ (gw_mem 842 (by decide +kernel))) (List.mem_cons_of_mem _ (gw_mem 107 (by decide +kernel))) (List.mem_cons_of_mem _ (gw_mem 70 (by decide +kernel))) (List.mem_cons_of_mem _ (gw_mem 108 (by decide +kernel))) ⟨Nat.le_trans (by decide) hR1.1, Nat.le_trans (by decide) hR1.2⟩ (kdj_l1ix_ok (11, .invokestatic 92, 3) (List.mem_of_getElem? (i := 7) rfl))) (am_allc (am_ck_min X (List.mem_cons_of_mem _ (gw_mem 843 (by decide +kernel))) (List.mem_cons_of_mem _ (gw_mem 844 (by decide +kernel))) (List.mem_cons_of_mem _ (gw_mem 70 (by decide +kernel))) (List.mem_cons_of_mem _ (gw_mem 845 (by decide +kernel))) ⟨Nat.le_trans (by decide) hR1.1, Nat.le_trans (by decide) hR1.2⟩ (kdj_l1ix_ok (18, .invokestatic 38, 3) (List.mem_of_getElem? (i := 12) rfl))) (am_allc (am_ck_S (n := 4) X hEs hE.1 (kmj_ixChar hE) (hg_good (gw_mem 848 (by decide +kernel))) rfl (List.mem_cons_of_mem _ (gw_mem 84 (by decide +kernel))) (List.mem_cons_of_mem _ (gw_mem 846 (by decide +kernel))) (List.mem_cons_of_mem _ (gw_mem 847 (by decide +kernel))) (by decide +kernel) ⟨Nat.le_trans (by decide) hR1.1, Nat.le_trans (by decide) hR1.2⟩ (kdj_l1ix_ok (33, .invokestatic 95, 3) (List.mem_of_getElem? (i := 23) rfl))) (am_all0))))
    exact hz _ (am_as_mem hq)
def kdj_ix2 : List (Nat × Instr × Nat) := [(0, .aload_n 0, 1), (1, .invokevirtual 492, 3), (4, .ifCond .eq 19, 3), (7, .aload_n 0, 1), (8, .getfield 9, 3), (11, .iload_n 1, 1), (12, .iload_n 2, 1), (13, .aload_n 0, 1), (14, .invokevirtual 505, 3), (17, .invokestatic 637, 3), (20, .goto 16, 3), (36, .ireturn, 1)]
theorem kdj_ix2_ok : ∀ q ∈ kdj_ix2, decode prog_20_method_80_code q.1 = .ok q.2 := by decide +kernel
def hyj_ix2 : MethodName := ⟨"java/lang/String", "indexOf", "(II)I"⟩
noncomputable def kij_ix2 (n : Nat) (f : Nat → Int32) : List (Nat × Option (List Nat) × Nat × (List am_V → List am_C → Prop) × am_M) := [(1, some [], 1, prj_isLatin1 n f, fmj_isLatin1 n f), (8, some [], 1, prO_value, fmO_value), (14, some [], 1, prj_length n f, fmj_length n f), (17, some [], 4, prj_l1ix n f, fmj_l1ix n f)]
noncomputable def kbj_ix2 (n : Nat) (f : Nat → Int32) : am_B := (kdj_ix2, fun _ => none, hn_ty, fun _ => none, fun _ => none, am_as (kij_ix2 n f), hj_oa n f, 5, 3, (some .int))
noncomputable def fnj_ix2 (n : Nat) (f : Nat → Int32) (p0 : Int32) (p1 : Int32) : Int32 := Classical.choose (⟨_, rfl⟩ : ∃ z : Int32, z = (fnj_l1ix n f p0 p1 (fnj_length n f)))
theorem fqj_ix2 (n : Nat) (f : Nat → Int32) (p0 : Int32) (p1 : Int32) : fnj_ix2 n f p0 p1 = (fnj_l1ix n f p0 p1 (fnj_length n f)) := Classical.choose_spec (⟨_, rfl⟩ : ∃ z : Int32, z = (fnj_l1ix n f p0 p1 (fnj_length n f)))
def wpj_ix2 (n : Nat) (f : Nat → Int32) (p0 : Int32) (p1 : Int32) : Prop := ((wpj_isLatin1 n f) ∧ ((wpj_length n f) ∧ (wpj_l1ix n f p0 p1 (fnj_length n f))))
set_option maxRecDepth 100000 in
set_option maxHeartbeats 4000000 in
theorem rej_ix2 (n : Nat) (f : Nat → Int32) (p0 : Int32) (p1 : Int32) (hp : wpj_ix2 n f p0 p1) : am_lf (am_mk (kbj_ix2 n f) 0 0 0) [] (0, am_L0 [.inr (.inr 1), .inl p0, .inl p1] 3, [], [], 0, 0) = some (some (.inl (fnj_ix2 n f p0 p1)), []) := by
  unfold wpj_ix2 at hp
  refine am_lf_eq ?_
  generalize am_lf (am_mk (kbj_ix2 n f) 0 0 0) [] = kt
  refine am_cy (pre := prj_isLatin1 n f) (f := fmj_isLatin1 n f) (a' := [.inr (.inr 1)]) (wc := []) (w' := []) (r := (some (.inl (1 : Int32)), [], 0, 0)) ?_ ?_ ?_ ?_ ?_ ?_ ?_ ?_ ?_ ?_
  · exact am_sow0 _
  · rfl
  · rfl
  · exact am_sub0 _
  · exact ⟨rfl, rfl, hp.1⟩
  · exact fej_isLatin1 n f
  · exact rfl
  · rfl
  · exact am_mix0 _
  refine am_cy (pre := prO_value) (f := fmO_value) (a' := [.inr (.inr 1)]) (wc := []) (w' := []) (r := (some (.inr (.inr 2)), [], 0, 0)) ?_ ?_ ?_ ?_ ?_ ?_ ?_ ?_ ?_ ?_
  · exact am_sow0 _
  · rfl
  · rfl
  · exact am_sub0 _
  · exact ⟨rfl, rfl⟩
  · rfl
  · rfl
  · rfl
  · exact am_mix0 _
  refine am_cy (pre := prj_length n f) (f := fmj_length n f) (a' := [.inr (.inr 1)]) (wc := []) (w' := []) (r := (some (.inl (fnj_length n f)), [], 0, 0)) ?_ ?_ ?_ ?_ ?_ ?_ ?_ ?_ ?_ ?_
  · exact am_sow0 _
  · rfl
  · rfl
  · exact am_sub0 _
  · exact ⟨rfl, rfl, hp.2.1⟩
  · exact fej_length n f
  · exact rfl
  · rfl
  · exact am_mix0 _
  refine am_cy (pre := prj_l1ix n f) (f := fmj_l1ix n f) (a' := [.inr (.inr 2), .inl p0, .inl p1, .inl (fnj_length n f)]) (wc := []) (w' := []) (r := (some (.inl (fnj_l1ix n f p0 p1 (fnj_length n f))), [], 0, 0)) ?_ ?_ ?_ ?_ ?_ ?_ ?_ ?_ ?_ ?_
  · exact am_sow0 _
  · rfl
  · rfl
  · exact am_sub0 _
  · exact ⟨p0, p1, (fnj_length n f), rfl, rfl, hp.2.2⟩
  · exact fej_l1ix n f p0 p1 (fnj_length n f)
  · exact rfl
  · rfl
  · exact am_mix0 _
  have e : fnj_ix2 n f p0 p1 = (fnj_l1ix n f p0 p1 (fnj_length n f)) := by
    rw [fqj_ix2]
  rw [e] <;> rfl
abbrev prj_ix2 (n : Nat) (f : Nat → Int32) : List am_V → List am_C → Prop := fun a w => ∃ (p0 : Int32) (p1 : Int32), a = [.inr (.inr 1), .inl p0, .inl p1] ∧ w = [] ∧ wpj_ix2 n f p0 p1
noncomputable def fmj_ix2 (n : Nat) (f : Nat → Int32) : am_M := fun a w => (fun (z : Int32) => (some (.inl z), [], 0, 0)) (fnj_ix2 n f (am_i (am_an a 1)) (am_i (am_an a 2)))
theorem fej_ix2 (n : Nat) (f : Nat → Int32) (p0 : Int32) (p1 : Int32) : fmj_ix2 n f [.inr (.inr 1), .inl p0, .inl p1] [] = (some (.inl (fnj_ix2 n f p0 p1)), [], 0, 0) := rfl
set_option maxRecDepth 100000 in
set_option maxHeartbeats 4000000 in
theorem rnj_ix2 (n : Nat) (f : Nat → Int32) : ∀ (a : List am_V) (w : List am_C), prj_ix2 n f a w → ∃ nq, am_ev (am_mk (kbj_ix2 n f) (fmj_ix2 n f a w).2.2.1 (fmj_ix2 n f a w).2.2.2 w.length) [] nq (0, am_L0 a 3, [], w, 0, 0) = some ((fmj_ix2 n f a w).1, (fmj_ix2 n f a w).2.1) := by
  rintro a w ⟨p0, p1, rfl, rfl, hp⟩
  rw [fej_ix2 n f p0 p1]
  exact am_lf_ev (rej_ix2 n f p0 p1 hp)
theorem rlj_ix2 (n : Nat) (f : Nat → Int32) : ∀ (a : List am_V) (w : List am_C), prj_ix2 n f a w → a.length ≤ 3 := by
  rintro a w ⟨p0, p1, rfl, rfl, hp⟩
  exact Nat.le_of_ble_eq_true rfl
theorem paj_ix2 (n : Nat) (f : Nat → Int32) : ∀ a w, prj_ix2 n f a w → ∃ a', a = .inr (.inr 1) :: a' := by
  rintro a w ⟨p0, p1, rfl, rfl, hp⟩
  exact ⟨_, rfl⟩
set_option maxRecDepth 100000 in
set_option maxHeartbeats 4000000 in
theorem kmj_ix2 {l : Launch} {E : (Nat → Prop) → State → Prop} {D : va_G} {ou : Nat → Nat} {ca : Nat → ClassId} {n : Nat} {f : Nat → Int32} {fz : am_V} (hE : hj_E E ou n f fz) : hg_Met l E D ou ca hyj_ix2 prog_20_method_80_code 3 (some .int) 2 (prj_ix2 n f) (fmj_ix2 n f) := by
  refine am_met (B := kbj_ix2 n f) (cuts := []) (nt := 5) (by decide +kernel) rfl rfl (hg_tys_ok ca) ?_ (by decide) (rlj_ix2 n f) ?_ (rnj_ix2 n f)
  · exact fun t ht => List.mem_cons_of_mem _ (hg_arr t ht)
  · intro a w hp ad p e R s m args below meth c hR X hEs hnm
    have hR1 : 2 ≤ R.frames ∧ 80 ≤ R.locals := by rw [hR]; exact ⟨Nat.le_refl _, Nat.le_refl _⟩
    have hN := hE.2.2 _ _ hEs
    refine ⟨kdj_ix2_ok, fun index ci fi mode hq => (am_no hq).elim, fun index ci fs hq => (am_no hq).elim, fun x v hq => (am_no hq).elim, ?_, hj_oa_ok hN.2.2.2.1, rfl, rfl, by rw [hR]; exact Nat.le_refl _, by rw [hR]; exact Nat.le_refl _⟩
    intro pc sel n0 pre0 f0 hq
    have hz : ∀ q ∈ kij_ix2 n f, am_CK p l e R s m args below meth c D hn_cl (va_A (am_w ad ou ca w) s.heap.size) ou ca 3 q.1 q.2.2.1 q.2.2.2.1 q.2.2.2.2 := by
      refine am_allc (am_ck_VO (n := 0) X hEs hE.1 (kmj_isLatin1 hE) (hg_good (gw_mem 382 (by decide +kernel))) rfl (List.mem_cons_of_mem _ (gw_mem 83 (by decide +kernel))) (List.mem_cons_of_mem _ (gw_mem 379 (by decide +kernel))) (List.mem_cons_of_mem _ (gw_mem 380 (by decide +kernel))) (List.mem_cons_of_mem _ (gw_mem 381 (by decide +kernel))) hN.1 (paj_isLatin1 n f) (by decide +kernel) ⟨Nat.le_trans (by decide) hR1.1, Nat.le_trans (by decide) hR1.2⟩ (kdj_ix2_ok (1, .invokevirtual 492, 3) (List.mem_of_getElem? (i := 1) rfl))) (am_allc (hj_gf (v := .inr (.inr 2)) X (fun _ => rfl) hN.2.2.1 (List.mem_cons_of_mem _ (gw_mem 1377 (by decide +kernel))) (kdj_ix2_ok (8, .getfield 9, 3) (List.mem_of_getElem? (i := 4) rfl))) (am_allc (am_ck_VO (n := 0) X hEs hE.1 (kmj_length hE) (hg_good (gw_mem 367 (by decide +kernel))) rfl (List.mem_cons_of_mem _ (gw_mem 83 (by decide +kernel))) (List.mem_cons_of_mem _ (gw_mem 835 (by decide +kernel))) (List.mem_cons_of_mem _ (gw_mem 365 (by decide +kernel))) (List.mem_cons_of_mem _ (gw_mem 366 (by decide +kernel))) hN.1 (paj_length n f) (by decide +kernel) ⟨Nat.le_trans (by decide) hR1.1, Nat.le_trans (by decide) hR1.2⟩ (kdj_ix2_ok (14, .invokevirtual 505, 3) (List.mem_of_getElem? (i := 8) rfl))) (am_allc (am_ck_S (n := 4) X hEs hE.1 (kmj_l1ix hE) (hg_good (gw_mem 838 (by decide +kernel))) rfl (List.mem_cons_of_mem _ (gw_mem 84 (by decide +kernel))) (List.mem_cons_of_mem _ (gw_mem 836 (by decide +kernel))) (List.mem_cons_of_mem _ (gw_mem 837 (by decide +kernel))) (by decide +kernel) ⟨Nat.le_trans (by decide) hR1.1, Nat.le_trans (by decide) hR1.2⟩ (kdj_ix2_ok (17, .invokestatic 637, 3) (List.mem_of_getElem? (i := 9) rfl))) (am_all0))))
    exact hz _ (am_as_mem hq)
def kdj_ix : List (Nat × Instr × Nat) := [(0, .aload_n 0, 1), (1, .iload_n 1, 1), (2, .iconst 0, 1), (3, .invokevirtual 633, 3), (6, .ireturn, 1)]
theorem kdj_ix_ok : ∀ q ∈ kdj_ix, decode prog_20_method_79_code q.1 = .ok q.2 := by decide +kernel
def hyj_ix : MethodName := ⟨"java/lang/String", "indexOf", "(I)I"⟩
noncomputable def kij_ix (n : Nat) (f : Nat → Int32) : List (Nat × Option (List Nat) × Nat × (List am_V → List am_C → Prop) × am_M) := [(3, some [], 3, prj_ix2 n f, fmj_ix2 n f)]
noncomputable def kbj_ix (n : Nat) (f : Nat → Int32) : am_B := (kdj_ix, fun _ => none, hn_ty, fun _ => none, fun _ => none, am_as (kij_ix n f), hj_oa n f, 5, 2, (some .int))
noncomputable def fnj_ix (n : Nat) (f : Nat → Int32) (p0 : Int32) : Int32 := Classical.choose (⟨_, rfl⟩ : ∃ z : Int32, z = (fnj_ix2 n f p0 (0 : Int32)))
theorem fqj_ix (n : Nat) (f : Nat → Int32) (p0 : Int32) : fnj_ix n f p0 = (fnj_ix2 n f p0 (0 : Int32)) := Classical.choose_spec (⟨_, rfl⟩ : ∃ z : Int32, z = (fnj_ix2 n f p0 (0 : Int32)))
def wpj_ix (n : Nat) (f : Nat → Int32) (p0 : Int32) : Prop := (wpj_ix2 n f p0 (0 : Int32))
set_option maxRecDepth 100000 in
set_option maxHeartbeats 4000000 in
theorem rej_ix (n : Nat) (f : Nat → Int32) (p0 : Int32) (hp : wpj_ix n f p0) : am_lf (am_mk (kbj_ix n f) 0 0 0) [] (0, am_L0 [.inr (.inr 1), .inl p0] 2, [], [], 0, 0) = some (some (.inl (fnj_ix n f p0)), []) := by
  unfold wpj_ix at hp
  refine am_lf_eq ?_
  generalize am_lf (am_mk (kbj_ix n f) 0 0 0) [] = kt
  refine am_cy (pre := prj_ix2 n f) (f := fmj_ix2 n f) (a' := [.inr (.inr 1), .inl p0, .inl (0 : Int32)]) (wc := []) (w' := []) (r := (some (.inl (fnj_ix2 n f p0 (0 : Int32))), [], 0, 0)) ?_ ?_ ?_ ?_ ?_ ?_ ?_ ?_ ?_ ?_
  · exact am_sow0 _
  · rfl
  · rfl
  · exact am_sub0 _
  · exact ⟨p0, (0 : Int32), rfl, rfl, hp⟩
  · exact fej_ix2 n f p0 (0 : Int32)
  · exact rfl
  · rfl
  · exact am_mix0 _
  have e : fnj_ix n f p0 = (fnj_ix2 n f p0 (0 : Int32)) := by
    rw [fqj_ix]
  rw [e] <;> rfl
abbrev prj_ix (n : Nat) (f : Nat → Int32) : List am_V → List am_C → Prop := fun a w => ∃ (p0 : Int32), a = [.inr (.inr 1), .inl p0] ∧ w = [] ∧ wpj_ix n f p0
noncomputable def fmj_ix (n : Nat) (f : Nat → Int32) : am_M := fun a w => (fun (z : Int32) => (some (.inl z), [], 0, 0)) (fnj_ix n f (am_i (am_an a 1)))
theorem fej_ix (n : Nat) (f : Nat → Int32) (p0 : Int32) : fmj_ix n f [.inr (.inr 1), .inl p0] [] = (some (.inl (fnj_ix n f p0)), [], 0, 0) := rfl
set_option maxRecDepth 100000 in
set_option maxHeartbeats 4000000 in
theorem rnj_ix (n : Nat) (f : Nat → Int32) : ∀ (a : List am_V) (w : List am_C), prj_ix n f a w → ∃ nq, am_ev (am_mk (kbj_ix n f) (fmj_ix n f a w).2.2.1 (fmj_ix n f a w).2.2.2 w.length) [] nq (0, am_L0 a 2, [], w, 0, 0) = some ((fmj_ix n f a w).1, (fmj_ix n f a w).2.1) := by
  rintro a w ⟨p0, rfl, rfl, hp⟩
  rw [fej_ix n f p0]
  exact am_lf_ev (rej_ix n f p0 hp)
theorem rlj_ix (n : Nat) (f : Nat → Int32) : ∀ (a : List am_V) (w : List am_C), prj_ix n f a w → a.length ≤ 2 := by
  rintro a w ⟨p0, rfl, rfl, hp⟩
  exact Nat.le_of_ble_eq_true rfl
theorem paj_ix (n : Nat) (f : Nat → Int32) : ∀ a w, prj_ix n f a w → ∃ a', a = .inr (.inr 1) :: a' := by
  rintro a w ⟨p0, rfl, rfl, hp⟩
  exact ⟨_, rfl⟩
set_option maxRecDepth 100000 in
set_option maxHeartbeats 4000000 in
theorem kmj_ix {l : Launch} {E : (Nat → Prop) → State → Prop} {D : va_G} {ou : Nat → Nat} {ca : Nat → ClassId} {n : Nat} {f : Nat → Int32} {fz : am_V} (hE : hj_E E ou n f fz) : hg_Met l E D ou ca hyj_ix prog_20_method_79_code 2 (some .int) 3 (prj_ix n f) (fmj_ix n f) := by
  refine am_met (B := kbj_ix n f) (cuts := []) (nt := 5) (by decide +kernel) rfl rfl (hg_tys_ok ca) ?_ (by decide) (rlj_ix n f) ?_ (rnj_ix n f)
  · exact fun t ht => List.mem_cons_of_mem _ (hg_arr t ht)
  · intro a w hp ad p e R s m args below meth c hR X hEs hnm
    have hR1 : 3 ≤ R.frames ∧ 120 ≤ R.locals := by rw [hR]; exact ⟨Nat.le_refl _, Nat.le_refl _⟩
    have hN := hE.2.2 _ _ hEs
    refine ⟨kdj_ix_ok, fun index ci fi mode hq => (am_no hq).elim, fun index ci fs hq => (am_no hq).elim, fun x v hq => (am_no hq).elim, ?_, hj_oa_ok hN.2.2.2.1, rfl, rfl, by rw [hR]; exact Nat.le_refl _, by rw [hR]; exact Nat.le_refl _⟩
    intro pc sel n0 pre0 f0 hq
    have hz : ∀ q ∈ kij_ix n f, am_CK p l e R s m args below meth c D hn_cl (va_A (am_w ad ou ca w) s.heap.size) ou ca 2 q.1 q.2.2.1 q.2.2.2.1 q.2.2.2.2 := by
      refine am_allc (am_ck_VO (n := 2) X hEs hE.1 (kmj_ix2 hE) (hg_good (gw_mem 834 (by decide +kernel))) rfl (List.mem_cons_of_mem _ (gw_mem 83 (by decide +kernel))) (List.mem_cons_of_mem _ (gw_mem 831 (by decide +kernel))) (List.mem_cons_of_mem _ (gw_mem 832 (by decide +kernel))) (List.mem_cons_of_mem _ (gw_mem 833 (by decide +kernel))) hN.1 (paj_ix2 n f) (by decide +kernel) ⟨Nat.le_trans (by decide) hR1.1, Nat.le_trans (by decide) hR1.2⟩ (kdj_ix_ok (3, .invokevirtual 633, 3) (List.mem_of_getElem? (i := 3) rfl))) (am_all0)
    exact hz _ (am_as_mem hq)
/-! the same, of the k-th String constant -/
def hg_by (k j : Nat) : Int32 := (hg_bs.getD k []).getD j 0
def hj_ou (ou : Nat → Nat) (k z : Nat) (o : Nat) : Nat := match o with
  | 0 => ou k
  | 1 => ou (37 + k)
  | _ => ou (z - 1)
def hj_fz (z : Nat) : am_V := match z with
  | 0 => .inr (.inr 0)
  | _ + 1 => .inr (.inr 3)
theorem hj_of {E : (Nat → Prop) → State → Prop} {ou : Nat → Nat} (hE : hg_E E ou) (k : Nat) (hk : k < 37) : ∃ z, hj_E E (hj_ou ou k z) (hg_ln.getD k 0) (hg_by k) (hj_fz z) := by
  obtain ⟨z, hz⟩ := hE.2.2
  refine ⟨z, hE.1, ?_, ?_⟩
  · cases z
    · exact Or.inl rfl
    · exact Or.inr rfl
  · intro A s h
    obtain ⟨h1, h2, h3⟩ := (hE.2.1 A s h).2
    obtain ⟨g1, g2, g3, g4⟩ := h2.1 k hk
    refine ⟨g1, g2, g3, g4, h3, ?_⟩
    have h4 := hz A s h
    cases z
    · exact h4
    · exact h4
noncomputable def fnJ_length (k : Nat) : Int32 := fnj_length (hg_ln.getD k 0) (hg_by k) 
def wpJ_length (k : Nat) : Prop := k < 37 ∧ wpj_length (hg_ln.getD k 0) (hg_by k) 
abbrev prJ_length : List am_V → List am_C → Prop := fun a w => ∃ (k : Nat), a = [.inr (.inr (k + 1))] ∧ w = [] ∧ wpJ_length k
noncomputable def fmJ_length : am_M := fun a _ => (some (.inl (fnJ_length (am_n (am_an a 0)))), [], 0, 0)
theorem feJ_length (k : Nat) : fmJ_length [.inr (.inr (k + 1))] [] = (some (.inl (fnJ_length k)), [], 0, 0) := rfl
theorem paJ_length : ∀ a w, prJ_length a w → ∃ k a', a = .inr (.inr (k + 1)) :: a' ∧ k < 37 := by
  rintro a w ⟨k, rfl, rfl, hp⟩
  exact ⟨k, _, rfl, hp.1⟩
theorem kmJ_length {l : Launch} {E : (Nat → Prop) → State → Prop} {D : va_G} {ou : Nat → Nat} {ca : Nat → ClassId} (hE : hg_E E ou) : hg_Met l E D ou ca hyj_length prog_20_method_54_code 1 (some .int) 1 prJ_length fmJ_length := by
  rintro ad sz a w ⟨k, rfl, rfl, hp⟩
  obtain ⟨z, hz⟩ := hj_of hE k hp.1
  exact kmj_length (l := l) (D := D) (ca := ca) hz ad sz [.inr (.inr 1)] [] ⟨rfl, rfl, hp.2⟩
noncomputable def fnJ_charAt (k : Nat) (p0 : Int32) : Int32 := fnj_charAt (hg_ln.getD k 0) (hg_by k) p0
def wpJ_charAt (k : Nat) (p0 : Int32) : Prop := k < 37 ∧ wpj_charAt (hg_ln.getD k 0) (hg_by k) p0
abbrev prJ_charAt : List am_V → List am_C → Prop := fun a w => ∃ (k : Nat) (p0 : Int32), a = [.inr (.inr (k + 1)), .inl p0] ∧ w = [] ∧ wpJ_charAt k p0
noncomputable def fmJ_charAt : am_M := fun a _ => (some (.inl (fnJ_charAt (am_n (am_an a 0)) (am_i (am_an a 1)))), [], 0, 0)
theorem feJ_charAt (k : Nat) (p0 : Int32) : fmJ_charAt [.inr (.inr (k + 1)), .inl p0] [] = (some (.inl (fnJ_charAt k p0)), [], 0, 0) := rfl
theorem paJ_charAt : ∀ a w, prJ_charAt a w → ∃ k a', a = .inr (.inr (k + 1)) :: a' ∧ k < 37 := by
  rintro a w ⟨k, p0, rfl, rfl, hp⟩
  exact ⟨k, _, rfl, hp.1⟩
theorem kmJ_charAt {l : Launch} {E : (Nat → Prop) → State → Prop} {D : va_G} {ou : Nat → Nat} {ca : Nat → ClassId} (hE : hg_E E ou) : hg_Met l E D ou ca hyj_charAt prog_20_method_56_code 2 (some .char) 3 prJ_charAt fmJ_charAt := by
  rintro ad sz a w ⟨k, p0, rfl, rfl, hp⟩
  obtain ⟨z, hz⟩ := hj_of hE k hp.1
  exact kmj_charAt (l := l) (D := D) (ca := ca) hz ad sz [.inr (.inr 1), .inl p0] [] ⟨p0, rfl, rfl, hp.2⟩
noncomputable def fnJ_indexOf (k : Nat) (p0 : Int32) : Int32 := fnj_ix (hg_ln.getD k 0) (hg_by k) p0
def wpJ_indexOf (k : Nat) (p0 : Int32) : Prop := k < 37 ∧ wpj_ix (hg_ln.getD k 0) (hg_by k) p0
abbrev prJ_indexOf : List am_V → List am_C → Prop := fun a w => ∃ (k : Nat) (p0 : Int32), a = [.inr (.inr (k + 1)), .inl p0] ∧ w = [] ∧ wpJ_indexOf k p0
noncomputable def fmJ_indexOf : am_M := fun a _ => (some (.inl (fnJ_indexOf (am_n (am_an a 0)) (am_i (am_an a 1)))), [], 0, 0)
theorem feJ_indexOf (k : Nat) (p0 : Int32) : fmJ_indexOf [.inr (.inr (k + 1)), .inl p0] [] = (some (.inl (fnJ_indexOf k p0)), [], 0, 0) := rfl
theorem paJ_indexOf : ∀ a w, prJ_indexOf a w → ∃ k a', a = .inr (.inr (k + 1)) :: a' ∧ k < 37 := by
  rintro a w ⟨k, p0, rfl, rfl, hp⟩
  exact ⟨k, _, rfl, hp.1⟩
theorem kmJ_indexOf {l : Launch} {E : (Nat → Prop) → State → Prop} {D : va_G} {ou : Nat → Nat} {ca : Nat → ClassId} (hE : hg_E E ou) : hg_Met l E D ou ca hyj_ix prog_20_method_79_code 2 (some .int) 3 prJ_indexOf fmJ_indexOf := by
  rintro ad sz a w ⟨k, p0, rfl, rfl, hp⟩
  obtain ⟨z, hz⟩ := hj_of hE k hp.1
  exact kmj_ix (l := l) (D := D) (ca := ca) hz ad sz [.inr (.inr 1), .inl p0] [] ⟨p0, rfl, rfl, hp.2⟩
