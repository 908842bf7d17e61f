/-! the claim out of the law's loop -/
def hz_tm (i : Nat) : Term := match hg_srs[i]? with
  | some q => .string q.1 q.2.1
  | none => .string "" 0
def hz_vl (i : Nat) : Term := .field (hz_tm i) "java/lang/String" "value" "[B"
def hz_sw (i : Nat) : List Cond := [.exactly (hz_tm i) "java/lang/String", .eq (.field (hz_tm i) "java/lang/String" "coder" "B") (.int 0), .arrayOf (hz_vl i) .byte, .eq (.length (hz_vl i)) (.int (Int32.ofNat (hg_ln.getD i 0)))]
def hz_se (i j : Nat) : Cond := .eq (.elem (hz_vl i) (.int (Int32.ofNat j))) (.int ((hg_bs.getD i []).getD j 0))
def hz_fl : List Cond := flatC (Jvm.Cond.and given_1 narrow_1)
def hz_sa (i : Nat) : List Cond := hz_sw i ++ (List.range (hg_ln.getD i 0)).map (hz_se i)
set_option maxRecDepth 100000 in
set_option maxHeartbeats 4000000 in
theorem hz_all : hz_fl.drop 55 = (List.range 37).flatMap hz_sa := by decide +kernel
theorem hz_ok {i : Nat} (hi : i < 37) {w : Cond} (hw : w ∈ hz_sa i) : w ∈ hz_fl := by
  refine List.mem_of_mem_drop (i := 55) ?_
  rw [hz_all]
  exact List.mem_flatMap.mpr ⟨i, List.mem_range.mpr hi, hw⟩
set_option maxRecDepth 100000 in
theorem hz_sr_ok : ∀ q ∈ hg_srs, lw_tbl.contains (.stringRef q.1 q.2.1 q.2.2) = true := by decide +kernel
set_option maxRecDepth 100000 in
theorem hz_ds : ∀ i ∈ List.range 37, ∀ j ∈ List.range 37, (hg_ln.getD i 0 == hg_ln.getD j 0 && (List.range (hg_ln.getD i 0)).all (fun k => (hg_bs.getD i []).getD k 0 == (hg_bs.getD j []).getD k 0)) = true → i = j := by decide +kernel
theorem hz_ln_small : ∀ i : Nat, i < 37 → hg_ln.getD i 0 < 100 := by decide +kernel
def hz_P (args : Array Value) (A : Nat → Prop) (s : State) (i : Nat) (q : Nat × Nat) : Prop := (hz_tm i).eval args s none [] s = some (.ref q.1) ∧ va_O "java/lang/String" q.1 A s s.heap ∧ va_OF "java/lang/String" "coder" "B" (.int 0) q.1 A s s.heap ∧ va_OF "java/lang/String" "value" "[B" (.ref q.2) q.1 A s s.heap ∧ va_T .byte q.2 (hg_ln.getD i 0) (fun j => .int ((hg_bs.getD i []).getD j 0)) A s s.heap
section HZS
variable {args : Array Value} {s : State} {A : Nat → Prop}
theorem hz_in {w : Cond} (hf : ∀ c ∈ hz_fl, c.before args s = true) (h : hz_fl.contains w = true) : w.before args s = true := hf w (by simpa using h)
theorem hz_str (hf : ∀ c ∈ hz_fl, c.before args s = true) (hA : ∀ a : Nat, a < s.heap.size → ¬ A a) (i : Nat) (hi : i < 37) : ∃ q : Nat × Nat, hz_P args A s i q := by
  have hr : i ∈ List.range 37 := List.mem_range.mpr hi
  have hw : ∀ w ∈ hz_sw i, w.before args s = true := fun w h => hf w (hz_ok hi (List.mem_append_left _ h))
  obtain ⟨adK, adV, hS, he⟩ := vk_Sof (args := args) (s := s) (N := 1) (tm := fun _ => hz_tm i) (len := [hg_ln.getD i 0]) (byt := [hg_bs.getD i []]) (A := A)
    (fun k hk => by
      rw [show k = 0 by omega]
      have := hz_ln_small i hi
      show hg_ln.getD i 0 < 2 ^ 31
      omega)
    (fun k hk => hw _ (by simp [hz_sw])) (fun k hk => hw _ (by simp [hz_sw])) (fun k hk => hw _ (by simp [hz_sw, hz_vl])) (fun k hk => by
      rw [show k = 0 by omega]
      exact hw _ (by simp [hz_sw, hz_vl])) (fun k hk j hj => by
      rw [show k = 0 by omega] at hj ⊢
      exact hf _ (hz_ok hi (List.mem_append_right _ (List.mem_map.mpr ⟨j, List.mem_range.mpr hj, rfl⟩)))) (fun a b ha hb hab => absurd (by omega : a = b) hab) hA
  obtain ⟨g1, g2, g3, g4⟩ := hS.1 0 (by decide)
  exact ⟨(adK 0, adV 0), he 0 (by decide), g1, g2, g3, g4⟩
theorem hz_inj {i j : Nat} {p q : Nat × Nat} (hi : i < 37) (hj : j < 37) (h1 : hz_P args A s i p) (h2 : hz_P args A s j q) (he : p.1 = q.1) : i = j := by
  obtain ⟨-, -, -, a4, a5⟩ := h1
  obtain ⟨-, -, -, b4, b5⟩ := h2
  obtain ⟨cf, k, fi, f, cell, x1, x2, x3, x4, x5, x6⟩ := a4
  obtain ⟨cf', k', fi', f', cell', y1, y2, y3, y4, y5, y6⟩ := b4
  cases x1.symm.trans y1
  rw [← he] at y3
  cases x3.symm.trans y3
  have hc : p.2 = q.2 := Value.ref.inj (Option.some.inj (x5.symm.trans y5))
  obtain ⟨c1, z1, -, -, z4, z5, z6, -⟩ := a5
  obtain ⟨c2, w1, -, -, w4, w5, w6, -⟩ := b5
  rw [← hc] at w1
  cases z1.symm.trans w1
  have hl : hg_ln.getD i 0 = hg_ln.getD j 0 := by
    have e := z5.symm.trans w5
    have e1 : (nI (hg_ln.getD i 0)) = nI (hg_ln.getD j 0) := e
    exact (nI_eq (by have := hz_ln_small i hi; omega) (by have := hz_ln_small j hj; omega)).mp e1
  refine hz_ds i (List.mem_range.mpr hi) j (List.mem_range.mpr hj) ?_
  rw [Bool.and_eq_true]
  refine ⟨by simpa using hl, List.all_eq_true.mpr fun k hk => ?_⟩
  have hk := List.mem_range.mp hk
  have e := (z6 k hk).symm.trans (w6 k (by rw [← hl]; exact hk))
  have e1 : (hg_bs.getD i []).getD k 0 = (hg_bs.getD j []).getD k 0 := by
    have := Option.some.inj e
    exact Value.int.inj this
  simpa using e1
end HZS
theorem hz_start {b : Nat} {s : State} (hts : ∀ w ∈ lw_tbl, w.before #[Value.ref b] s = true) (hgv : (Jvm.Cond.and given_1 narrow_1).before #[Value.ref b] s = true) : ∃ (ou : Nat → Nat) (z : Nat), ou 74 = b ∧ hz_E ou z (fun q => s.heap.size ≤ q) s := by
  have hf : ∀ c ∈ hz_fl, c.before #[Value.ref b] s = true := flat_of_before _ hgv
  have hA : ∀ a : Nat, a < s.heap.size → ¬ (fun q : Nat => s.heap.size ≤ q) a := fun a h => Nat.not_le.mpr h
  have htc : ∀ {w : Cond}, lw_tbl.contains w = true → w.before #[Value.ref b] s = true := fun h => hts _ (by simpa using h)
  have h0 : ∀ i : Nat, ∃ q : Nat × Nat, i < 37 → hz_P #[Value.ref b] (fun q => s.heap.size ≤ q) s i q := fun i => by
    by_cases hi : i < 37
    · obtain ⟨q, hq⟩ := hz_str hf hA i hi
      exact ⟨q, fun _ => hq⟩
    · exact ⟨(0, 0), fun h => absurd h hi⟩
  obtain ⟨g, hg⟩ := Classical.axiomOfChoice h0
  have hq := va_Zqof (args := #[Value.ref b]) (C := "jdk/internal/util/Preconditions") (n := "SIOOBE_FORMATTER") (d := "Ljava/util/function/BiFunction;") (htc (by decide +kernel)) (htc (by decide +kernel)) (hz_in hf (by decide +kernel)) hA
  have main : ∀ (t z : Nat), (∀ ou : Nat → Nat, ou 75 = t → va_Z "jdk/internal/util/Preconditions" "SIOOBE_FORMATTER" "Ljava/util/function/BiFunction;" (am_v ou ou (.inr (.inr z))) (fun q => s.heap.size ≤ q) s s.heap) → ∃ (ou : Nat → Nat) (z : Nat), ou 74 = b ∧ hz_E ou z (fun q => s.heap.size ≤ q) s := by
    intro t z hz
    have e0 : ∀ i, i < 37 → (fun i : Nat => if i < 37 then (g i).1 else if i < 74 then (g (i - 37)).2 else if i = 74 then b else t) i = (g i).1 := fun i hi => if_pos hi
    have e1 : ∀ i, i < 37 → (fun i : Nat => if i < 37 then (g i).1 else if i < 74 then (g (i - 37)).2 else if i = 74 then b else t) (37 + i) = (g i).2 := fun i hi => by
      show (if 37 + i < 37 then (g (37 + i)).1 else if 37 + i < 74 then (g (37 + i - 37)).2 else if 37 + i = 74 then b else t) = _
      rw [if_neg (by omega), if_pos (by omega), Nat.add_sub_cancel_left]
    refine ⟨fun i => if i < 37 then (g i).1 else if i < 74 then (g (i - 37)).2 else if i = 74 then b else t, z, rfl, ?_, ⟨?_, ⟨?_, ?_⟩, ?_⟩, hz _ rfl, ?_, ?_, ?_, ?_, ?_, ?_⟩
    · exact fun w hw => va_Nw.of (hz_ntab (hz_nws w hw)) (htc (hz_nwt w hw))
    · intro k q hk
      have hk37 : k < 37 := (List.getElem?_eq_some_iff.mp hk).1
      have h1 := (hg k hk37).1
      rw [e0 k hk37]
      refine vk_R.of (A := #[Value.ref b]) (htc (hz_sr_ok q (List.mem_of_getElem? hk))) ?_
      have h2 : hz_tm k = .string q.1 q.2.1 := by
        unfold hz_tm
        rw [hk]
      rw [← h2]
      exact h1
    · intro i hi
      obtain ⟨-, g1, g2, g3, g4⟩ := hg i hi
      rw [e0 i hi, e1 i hi]
      exact ⟨g1, g2, g3, g4⟩
    · intro i j hi hj he
      rw [e0 i hi, e0 j hj] at he
      exact hz_inj hi hj (hg i hi) (hg j hj) he
    · exact va_Zof (args := #[Value.ref b]) (htc (by decide +kernel)) (htc (by decide +kernel)) (va_eqt (hz_in hf (by decide +kernel))) hA
    · exact fun w hw => va_Nw.of (by have := hz_keep w hw; rw [Bool.and_eq_true] at this; exact this.1) (htc (hz_tb w hw))
    · exact hz_L.of (args := #[Value.ref b]) (htc (by decide +kernel)) hA
    · exact hz_L.of (args := #[Value.ref b]) (htc (by decide +kernel)) hA
    · exact va_Zqof (args := #[Value.ref b]) (htc (by decide +kernel)) (htc (by decide +kernel)) (hz_in hf (by decide +kernel)) hA
    · exact va_Zqof (args := #[Value.ref b]) (htc (by decide +kernel)) (htc (by decide +kernel)) (hz_in hf (by decide +kernel)) hA
    · have n1 : (Cond.not (.castable "java/lang/IllegalStateException" "java/lang/IndexOutOfBoundsException")).before #[Value.ref b] s = true := hz_in hf (by decide +kernel)
      have n2 : (Cond.not (.castable "java/lang/IllegalStateException" "java/lang/UnsupportedOperationException")).before #[Value.ref b] s = true := hz_in hf (by decide +kernel)
      intro c t hc ht
      cases hv : s.vm.assignable c t with
      | false => rfl
      | true =>
        rcases ht with ht | ht
        · simp [Cond.before, Cond.holds, Cond.value, hc, ht, hv] at n1
        · simp [Cond.before, Cond.holds, Cond.value, hc, ht, hv] at n2
  rcases hq with h | ⟨t, h⟩
  · exact main 0 0 (fun ou _ => h)
  · exact main t 76 (fun ou ho => by
      show va_Z _ _ _ (.ref (ou 75)) _ s s.heap
      rw [ho]
      exact h)
theorem hz_cls {args : Array Value} {s : State} (hts : ∀ w ∈ lw_tbl, w.before args s = true) : ∃ D : va_G, ∀ (c : Nat) (q : vw_C), hn_cl[c]? = some q → u_Kn s q.1 q.2.1 q.2.2 (D.1 c) (D.2 c) := by
  have hg : ∀ w ∈ gw_all, w ∈ lw_tbl := fun w h => (List.mem_filter.mp h).1
  have htc : ∀ {w : Cond}, lw_tbl.contains w = true → w.before args s = true := fun h => hts _ (by simpa using h)
  have h0 : ∀ (w : Cond) (C : String) (T : u_T), w ∈ u_ws C T 0 → w ∈ lw_tbl := fun w C T h => by simp [u_ws] at h
  have hall : ∀ q ∈ hn_cl, ∃ p : ClassId × (Nat → Nat), u_Kn s q.1 q.2.1 q.2.2 p.1 p.2 := by
    have mk : ∀ {C : String} {T : u_T} {N n : Nat}, (∀ w ∈ u_ws C T N, w ∈ lw_tbl) → (Cond.instantiable C n).before args s = true → ∃ p : ClassId × (Nat → Nat), u_Kn s C T N p.1 p.2 := fun hin hi => by
      obtain ⟨c, i, h⟩ := u_known hts hin hi
      exact ⟨(c, i), h⟩
    refine am_allc (mk (n := 10) (fun w h => hg w (hn_in0 w h)) (htc (by decide +kernel))) (am_allc (mk (n := 5) (fun w h => hg w (hn_in1 w h)) (htc (by decide +kernel))) (am_allc (mk (n := 4) (fun w h => hg w (hn_in2 w h)) (htc (by decide +kernel))) (am_allc (mk (n := 5) (fun w h => h0 w _ _ h) (htc (by decide +kernel))) (am_allc (mk (n := 5) (fun w h => h0 w _ _ h) (htc (by decide +kernel))) (am_allc (mk (n := 9) (fun w h => hg w (hn_in5 w h)) (htc (by decide +kernel))) (am_allc (mk (n := 3) (fun w h => hg w (hn_in6 w h)) (htc (by decide +kernel))) (am_allc (mk (n := 5) (fun w h => h0 w _ _ h) (htc (by decide +kernel))) (am_allc (mk (n := 1) (fun w h => hg w (hn_in8 w h)) (htc (by decide +kernel))) (am_allc (mk (n := 5) (fun w h => hg w (hn_in9 w h)) (htc (by decide +kernel))) (am_allc (mk (n := 37) (fun w h => hg w (hn_in10 w h)) (htc (by decide +kernel))) am_all0))))))))))
  have h1 : ∀ c : Nat, ∃ p : ClassId × (Nat → Nat), ∀ q : vw_C, hn_cl[c]? = some q → u_Kn s q.1 q.2.1 q.2.2 p.1 p.2 := fun c => by
    cases hc : hn_cl[c]? with
    | none => exact ⟨(0, fun _ => 0), fun q h => by cases h⟩
    | some q =>
      obtain ⟨p, hp⟩ := hall q (List.mem_of_getElem? hc)
      exact ⟨p, fun q' h => by cases h; exact hp⟩
  obtain ⟨g, hgg⟩ := Classical.axiomOfChoice h1
  exact ⟨(fun c => (g c).1, fun c => (g c).2), fun c q hq => hgg c q hq⟩
theorem hz_arr {args : Array Value} {s : State} (hts : ∀ w ∈ lw_tbl, w.before args s = true) : ∃ ca : Nat → ClassId, ∀ (k : Nat) (q : ClassId × FieldType), (hg_tys ca)[k]? = some q → ArrOfT s q.1 q.2 ∧ va_RA s q.1 q.2 := by
  have mk : ∀ t : Nat, t < 5 → ∃ cA : ClassId, ArrOfT s cA (am_ty t) ∧ va_RA s cA (am_ty t) := fun t ht => by
    obtain ⟨c, k, comp, h1, h2, h3⟩ := Cond.arrayClass_spec (hts _ ((List.mem_filter.mp (hg_arr t ht)).1))
    refine ⟨c, fun n z => ⟨fun k h => (by cases h), k, h2, comp, h3⟩, ?_⟩
    match t, ht with
    | 0, _ => exact h1
    | 1, _ => exact h1
    | 2, _ => exact h1
    | 3, _ => exact h1
    | 4, _ => exact h1
  have h0 : ∀ t : Nat, ∃ cA : ClassId, t < 5 → ArrOfT s cA (am_ty t) ∧ va_RA s cA (am_ty t) := fun t => by
    by_cases ht : t < 5
    · obtain ⟨c, hc⟩ := mk t ht
      exact ⟨c, fun _ => hc⟩
    · exact ⟨0, fun h => absurd h ht⟩
  obtain ⟨ca, hca⟩ := Classical.axiomOfChoice h0
  refine ⟨ca, fun k q hk => ?_⟩
  match k, hk with
  | 0, hk => cases hk; exact hca 0 (by decide)
  | 1, hk => cases hk; exact hca 1 (by decide)
  | 2, hk => cases hk; exact hca 2 (by decide)
  | 3, hk => cases hk; exact hca 3 (by decide)
  | 4, hk => cases hk; exact hca 4 (by decide)
/-! THE CLAIM OUT OF ONE WALK OF THE LAW'S BODY. Your part is whole_start (and what it stands on); all else here is the same for every law, but numbers. -/
def R_law : String := "HoleTemplatesLaw"
def lw_P (b : Addr) (xs : List Int32) (args : Array Value) (s : State) : Prop := args = #[.ref b] ∧ s.IntsAt b xs ∧ xs.length ≤ 1024 ∧ (Jvm.Cond.and given_1 narrow_1).before args s = true
def lw_Q (_ : Array Value) (s : State) (o : Outcome) (t : State) : Prop := o = .returned (some (.int 1)) ∧ Framed s o t [] 601024 7293034
def lw_Z (below : List Frame) (a : Array Value) (s : State) : State → Prop := fun t => ∃ o, t.status = .running ∧ Ended t below o ∧ lw_Q a s o t
/-- the law's own end, with 1 on the stack, nothing written that was there before, its room as the claim has it -/
theorem lw_ret {p : Program} {l : Launch} {e : Env} {s : State} {m : MethodId} {below : List Frame} {meth : Method} {c : Code} {b : Nat} (hx : p.tables.exec = Jvm.exec) (hb : c.code = code) (hr : meth.sig.returnType = ret) (hlocks : meth.locks = false) {pc : Nat} {H : Heap} {ls : Array Slot} (hdg : decode code pc = .ok (.ireturn, 1)) : W p l e room_1 s m #[Value.ref b] below meth c H [] 601024 7293034 (lw_Z below #[Value.ref b] s) (F0 m pc ls [.int 1]) := by
  intro T hT X
  obtain ⟨fs, hret, hrun, hended, hW, hframe⟩ := X.leave (v := some (.int 1)) (hlocks := hlocks) (fun h => by rw [hr] at h; cases h)
  have hmeth' : T.vm.method? m = some meth := X.method'
  refine ⟨T.setFrames fs, ?_, .returned (some (.int 1)), hrun, hended, rfl, ⟨_, rfl⟩, hW, hframe⟩
  jvm_step X.here [X.here.top, hx, hb, hdg, hmeth', hr, ret, narrow_b1]
  (try refine ⟨rfl, ?_⟩); (try refine ⟨rfl, ?_⟩)
  first | (intro acts; rw [hret _ acts rfl rfl rfl]) | rw [hret _ _ rfl rfl rfl]
  exact Steps.refl _
/-- what holds at the law's entry: the machine, the code, the tables' words (any of lw_tbl by 'hts w (by decide +kernel)'), the script of L ints xs at the cell b, what the Statement gives of the start (any of its parts by flat_of_before) -/
def lw_At (p : Program) (s : State) (m : MethodId) (meth : Method) (c : Code) (b L : Nat) (xs : Nat → Int32) : Prop :=
  p.tables.exec = Jvm.exec ∧ c.code = code ∧ meth.sig.returnType = ret ∧ c.maxLocals = 7 ∧ s.vm.findClass R_law = some m.cls ∧ (∀ w ∈ lw_tbl, w.before #[Value.ref b] s = true) ∧ va_X b L xs s s.heap ∧ b < s.heap.size ∧ meth.locks = false ∧ (Jvm.Cond.and given_1 narrow_1).before #[Value.ref b] s = true
theorem whole_start {p : Program} {e : Env} {s : State} {m : MethodId} {below : List Frame} {meth : Method} {c : Code} (l : Launch) (hl : ∀ e : Env, l.admits e → e.platform.stackTraces = false) {Iv : lw_Iv} (hok : lw_ok Iv) (hI : Iv li_r li_r hi2_s1 li_y li_x li_c li_r hi10_s1) {b L : Nat} {xs : Nat → Int32} (hL : L ≤ 1024) (C0 : lw_At p s m meth c b L xs) : W p l e room_1 s m #[Value.ref b] below meth c s.heap [] 0 0 (lw_Z below #[Value.ref b] s) (entryFrame m ([Value.ref b] : List Value).toArray 7) := by
  obtain ⟨hx, hb, hr, hml, hown, hts, hX, hbl, hlocks, hgv⟩ := id C0
  obtain ⟨ou, z, ho, hEs⟩ := hz_start hts hgv
  obtain ⟨D, hD0⟩ := hz_cls hts
  obtain ⟨ca, hca⟩ := hz_arr hts
  have hK : va_K D hn_cl (hg_tys ca) s := ⟨hD0, hca⟩
  have hS : va_S (fun q : Nat => s.heap.size ≤ q) s.heap s.heap [] := va_S.rf
  have hP : va_P D hn_cl [] s.heap := fun k q h => by simp at h
  have hD : va_D (fun q : Nat => s.heap.size ≤ q) [] := ⟨fun i j p q h => by simp at h, fun k q h => by simp at h⟩
  have X : am_X p s m #[Value.ref b] c code "HoleTemplatesLaw" ((Cond.initialized "HoleTemplatesLaw") :: gw_all) D hn_cl (hg_tys ca) (fun q : Nat => s.heap.size ≤ q) 7 ca 5 :=
    ⟨hx, hb, hml, hown, fun w hw => by
      rcases List.mem_cons.mp hw with h | h
      · rw [h]
        exact hts _ (by have : lw_tbl.contains (Cond.initialized "HoleTemplatesLaw") = true := by decide +kernel
                        simpa using this)
      · exact hts _ (List.mem_filter.mp h).1, hK, fun q h => h, hg_tys_ok ca, fun t ht => hts _ (List.mem_filter.mp (hg_arr t ht)).1, by decide⟩
  have hT : va_T .int (ou 74) L (fun j => .int (xs j)) (fun q : Nat => s.heap.size ≤ q) s s.heap := by
    obtain ⟨scr, h1, h2, h3, h4, h5⟩ := hX
    rw [ho]
    exact ⟨scr, h1, h2, h3, Nat.le_of_eq h4.symm, by rw [h4], h5, Nat.not_le.mpr hbl⟩
  have hend : ∀ (ad : Nat → Nat) (L' : List (Option am_V)) (w : List am_C) (k j : Nat), k ≤ 601024 → j ≤ 7293034 → am_W p l e room_1 s m #[Value.ref b] below meth c (lw_Z below #[Value.ref b] s) D hn_cl (fun q : Nat => s.heap.size ≤ q) ou ca 7 ad (497, L', [.inl 1], w, k, j) := by
    intro ad L' w k j hk hj H locs ls _ _ qS _
    refine va_forget qS.2.2 ?_
    refine W.widen hk hj ?_
    exact lw_ret hx hb hr hlocks (kdLaw_ok (497, .ireturn, 1) (List.mem_of_getElem? (i := 261) rfl))
  have key := am_sg_ok (ad0 := fun _ => 0) X (tkLaw0 (l := l) (e := e) (below := below) (meth := meth) (hz_hE ou z) (hz_hX ou z) (hz_hN ou z) hl X hEs hT) rfl (sl_start (n := L) (f := xs)) (fun ad1 _ => law_loop (hz_hE ou z) (hz_hX ou z) (hz_hN ou z) hl X hEs hT hL hok hend L 0 (by omega) (by omega) _ _ _ _ _ _ _ _ _ _ _ _ _ hI (by omega) (by omega) ad1) (fun _ => 0) (fun _ _ => rfl)
  have hlv := lv_entry ([Value.ref b]) (n := 7) (Nat.le_of_ble_eq_true rfl)
  rw [lg_entry_eq]
  generalize (lg_sl ([Value.ref b]) ++ List.replicate (7 - (lg_sl ([Value.ref b])).length) Slot.unset).toArray = ls at hlv ⊢
  refine key s.heap [] ls hP hD hS ?_
  refine am_L0_ok (a := [.inr (.inr 75)]) ?_
  have e9 : ([.inr (.inr 75)] : List am_V).map (am_v (fun _ => 0) ou) = [Value.ref b] := by
    show [Value.ref (ou 74)] = _
    rw [ho]
  rw [e9]
  exact hlv
set_option maxHeartbeats 4000000 in
theorem lw_walk (l : Launch) (hl : ∀ e : Env, l.admits e → e.platform.stackTraces = false) {Iv : lw_Iv} (hok : lw_ok Iv) (hI : Iv li_r li_r hi2_s1 li_y li_x li_c li_r hi10_s1) (b : Addr) (xs : List Int32) : MetFree l x (headSpec (Jvm.Cond.code x code maxLocals ret :: tables_1) room_1) (lw_P b xs) (fun _ _ _ _ _ => True) lw_Q := by
  refine MetFree.of_bodyS (code := code) (maxLocals := maxLocals) (ret := ret) (by decide) ?_ ?_
  · intro args s m h hn
    obtain ⟨meth, c, h1, h2, h3, h4, h5, h6, -, -⟩ := Cond.code_spec hn (atoms_spec (ws := Jvm.Cond.code x code maxLocals ret :: tables_1) h _ List.mem_cons_self)
    exact ⟨meth, c, h1, h2, h3, h4, h5, h6⟩
  · intro p e s m args below meth c s₁ B hml0 hP _
    obtain ⟨rfl, hx, hbd, hgv⟩ := hP
    obtain ⟨scr, harrAt, hlist, hof, hsmall⟩ := hx
    obtain ⟨hcb, hkn, -, -⟩ := State.arrayAt?_spec harrAt
    have hown : s.vm.findClass R_law = some m.cls := findClass_of_methodNamed B.named
    have hts0 : ∀ c ∈ (Jvm.Cond.code x code maxLocals ret :: tables_1), c.before #[Value.ref b] s = true := atoms_spec (ws := Jvm.Cond.code x code maxLocals ret :: tables_1) B.pre
    have hts : ∀ w ∈ lw_tbl, w.before #[Value.ref b] s = true := k2_hts_sels lw_privs (fun w hw => hts0 w (List.mem_cons_of_mem _ hw)) lw_privs_ok
    have hml : c.maxLocals = 7 := B.maxLocals_eq (hts0 _ List.mem_cons_self)
    have X₀ : Stand p l e room_1 s m #[Value.ref b] below meth c s₁ [] 0 0 := Stand.of_body B
    have hh0 : s₁.heap = s.heap := by rw [B.state]; rfl
    have hsz : scr.slots.size = xs.length := by rw [← Array.length_toList, hlist, List.length_map]
    have hval : ∀ j : Nat, j < xs.length → scr.slots[j]? = some (.int (xs.getD j 0)) := fun j hj => by
      rw [← Array.getElem?_toList, hlist]
      simp [hj]
    have hbl : b < s.heap.size := (Array.getElem?_eq_some_iff.mp hcb).1
    have hX : va_X b xs.length (fun j => xs.getD j 0) s s.heap := ⟨scr, hcb, hof, hkn, hsz, hval⟩
    have K : W p l e room_1 s m #[Value.ref b] below meth c s₁.heap [] 0 0 (lw_Z below #[Value.ref b] s) (entryFrame m ([Value.ref b] : List Value).toArray 7) := by
      rw [hh0]
      exact whole_start l hl hok hI hbd ⟨B.exec, B.bytes, B.returns, hml, hown, hts, hX, hbl, B.notSynchronized, hgv⟩
    obtain ⟨t, a1, o, b1, b2, b3⟩ := K s₁ rfl X₀
    exact ⟨t, o, a1, b1, b2, b3⟩
theorem lw_pre_spec {args : Array Value} {s : State} (h : (Jvm.Cond.and given_1 narrow_1).before args s = true) (hr : rest_1_c.before args s = true) : ∃ (b : Addr) (xs : List Int32), lw_P b xs args s := by
  have hs := flat_of_before _ h
  have hq := flat_of_before _ hr
  have hc : (Cond.count 1).before args s = true := hs _ (by decide +kernel)
  have harr : (Cond.arrayOf (.arg 0) .int).before args s = true := hs _ (by decide +kernel)
  have hle : (Cond.le (.length (.arg 0)) (.int 1024)).before args s = true := hs _ (by decide +kernel)
  have hlen : (Cond.isInt (.length (.arg 0))).before args s = true := hq _ (by decide +kernel)
  have hall : (Cond.all (.arg 0) (.isInt (.elem (.arg 0) (.index 0)))).before args s = true := hq _ (by decide +kernel)
  obtain ⟨b, xs, hb, hx⟩ := State.ints_of_pre rfl harr hlen hall
  have hsm : xs.length < 2 ^ 31 := hx.choose_spec.2.2.2
  have hev : (Term.length (.arg 0)).eval args s none [] s = some (.int xs.length.toInt32) := hx.length_eval hb
  have hv := Cond.le_ints hev (show (Term.int 1024).eval args s none [] s = some (.int 1024) from rfl)
  have hd : xs.length.toInt32 ≤ 1024 := by
    simpa [Cond.before, Cond.holds, hv] using hle
  have hN : xs.length ≤ 1024 := (Int32.ofNat_le_ofNat hsm (by decide)).mp (show Int32.ofNat xs.length ≤ Int32.ofNat 1024 from hd)
  exact ⟨b, xs, Cond.one_arg hc (show args[0]? = some (.ref b) from hb), hx, hN, h⟩
theorem lw_comes (l : Launch) (hl : ∀ e : Env, l.admits e → e.platform.stackTraces = false) {Iv : lw_Iv} (hok : lw_ok Iv) (hI : Iv li_r li_r hi2_s1 li_y li_x li_c li_r hi10_s1) : Comes l x (Jvm.Cond.code x code maxLocals ret :: tables_1) room_1 (fun tb e args s => Calls_1 tb e args s ∧ rest_1 tb e args s ∧ Pre_1 tb e args s)
    (fun _ _ args s o t => lw_Q args s o t) := by
  intro p e ha hc hk s m args below hf hfit hheap happ hpre
  obtain ⟨b, xs, hP⟩ := lw_pre_spec hpre.2.2 hpre.2.1
  obtain ⟨k, o, h1, h2, h3, hQ⟩ := lw_walk l hl hok hI b xs p e ha hc hk s m args below hf ((Spec.applies_iff_loose hf).mp happ).1 hP trivial
  exact ⟨k, o, h1, h2, h3, hQ⟩
theorem lw_frame {s t : State} {o : Outcome} {args : Array Value} (h : Framed s o t [] 601024 7293034) :
    Framed s o t (fieldLocs frame_1_writes args s ++ arrayLocs frame_1_arrays args s ++ staticLocs frame_1_statics s) 601024 7293034 := h
theorem lw_limb {Iv : lw_Iv} (hok : lw_ok Iv) (hI : Iv li_r li_r hi2_s1 li_y li_x li_c li_r hi10_s1) (L : Cond) (hL : ∀ (args : Array Value) (s t : State), L.after args s (.returned (some (.int 1))) t = true) :
    ArmFor flags0 classFile x code maxLocals ret World_1 tables_1 room_1 Calls_1 rest_1 Pre_1
      (fun tb e a s o t => postC L tb e a s o t ∧ Framed s o t (fieldLocs frame_1_writes a s ++ arrayLocs frame_1_arrays a s ++ staticLocs frame_1_statics s) 601024 7293034) := by
  intro l hfl _ _ p e ha hc hk s m args below hf hfit hheap happ hpre
  obtain ⟨k, o, h1, h2, h3, rfl, hF⟩ := lw_comes l (fun e9 ha9 => Launch.traces_off hfl ha9) hok hI p e ha hc hk s m args below hf hfit hheap happ hpre
  exact ⟨k, _, h1, h2, h3, hL args s _, lw_frame hF⟩
theorem i_vc_of {Iv : lw_Iv} (hok : lw_ok Iv) (hI : Iv li_r li_r hi2_s1 li_y li_x li_c li_r hi10_s1) : Claimed_1_1 ∧ Claimed_1_2 := ⟨lw_limb hok hI limb_1_1 (fun args s t => by simp [limb_1_1, Cond.after, Cond.holds, Cond.value]), lw_limb hok hI limb_1_2 (fun args s t => Cond.after_iff.mpr (by
  first | (rw [show limb_1_2 = Cond.eq .result (.int 1) from rfl, Cond.eq_ints (x := 1) (y := 1) rfl rfl]; simp; done) | (simp [limb_1_2, Cond.value, Term.eval]; done)))⟩
