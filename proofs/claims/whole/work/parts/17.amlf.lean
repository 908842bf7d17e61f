/-! THE MACHINE WITHOUT COUNTING: an instruction goes on at one place, or not at all; so the ends that some count reaches make one function, am_lf -/
def am_pt (F : (am_S → Option am_Z) → Option am_Z) : Prop := ∀ (kt : am_S → Option am_Z) (z : am_Z), F kt = some z → (∃ st' : am_S, kt st' = some z ∧ ∀ kt' : am_S → Option am_Z, kt' st' = some z → F kt' = some z) ∨ ∀ kt' : am_S → Option am_Z, F kt' = some z
theorem am_pt_c (r : Option am_Z) : am_pt (fun _ => r) := fun _ _ h => Or.inr fun _ => h
theorem am_pt_k (st : am_S) : am_pt (fun kt => kt st) := fun _ _ h => Or.inl ⟨st, h, fun _ h' => h'⟩
theorem am_pt_b {b : Bool} {F G : (am_S → Option am_Z) → Option am_Z} (hF : am_pt F) (hG : am_pt G) : am_pt (fun kt => bif b then F kt else G kt) := by
  cases b
  · exact hG
  · exact hF
theorem am_pt_i {c : Prop} {d : Decidable c} {F G : (am_S → Option am_Z) → Option am_Z} (hF : am_pt F) (hG : am_pt G) : am_pt (fun kt => @ite _ c d (F kt) (G kt)) := by
  by_cases hc : c
  · have e : (fun kt => @ite _ c d (F kt) (G kt)) = F := funext fun kt => if_pos hc
    rw [e]
    exact hF
  · have e : (fun kt => @ite _ c d (F kt) (G kt)) = G := funext fun kt => if_neg hc
    rw [e]
    exact hG
section AMPT
variable {T : am_T} {len pc : Nat} {L : List (Option am_V)} {S : List am_V} {w : List am_C} {k j : Nat}
theorem am_pt_nx {want : Nat} : am_pt (fun kt => am_nx len pc kt want L S w k j) := am_pt_b (am_pt_k _) (am_pt_c _)
theorem am_pt_sx {want : Nat} : am_pt (fun kt => am_sx len pc kt want L S w k j) := am_pt_i am_pt_nx (am_pt_c _)
theorem am_pt_jp {off : Int} : am_pt (fun kt => am_jp len pc L w k j kt off S) := am_pt_b (am_pt_k _) (am_pt_c _)
theorem am_pt_jw {off : Int} : am_pt (fun kt => am_jw pc L w k j kt off S) := am_pt_b (am_pt_k _) (am_pt_c _)
theorem am_pt_ch {b : Bool} {F : (am_S → Option am_Z) → Option am_Z} (hF : am_pt F) : am_pt (fun kt => am_chk b (F kt)) := am_pt_i hF (am_pt_c _)
theorem am_pt_cq {b : Bool} {F : (am_S → Option am_Z) → Option am_Z} (hF : am_pt F) : am_pt (fun kt => am_chq b (F kt)) := am_pt_i hF (am_pt_c _)
theorem am_pt_fi {ty : FieldType} {v : am_V} {F : (am_S → Option am_Z) → Option am_Z} (hF : am_pt F) : am_pt (fun kt => am_fic ty v (F kt)) := by
  cases ty with
  | boolean => exact am_pt_ch hF
  | char => exact am_pt_ch hF
  | int => exact am_pt_b (b := am_fit .int v) hF (am_pt_c none)
  | byte => exact am_pt_b (b := am_fit .byte v) hF (am_pt_c none)
  | short => exact am_pt_b (b := am_fit .short v) hF (am_pt_c none)
  | long => exact am_pt_b (b := am_fit .long v) hF (am_pt_c none)
  | float => exact am_pt_b (b := am_fit .float v) hF (am_pt_c none)
  | double => exact am_pt_b (b := am_fit .double v) hF (am_pt_c none)
  | object n => exact am_pt_b (b := am_fit (.object n) v) hF (am_pt_c none)
  | array n => exact am_pt_b (b := am_fit (.array n) v) hF (am_pt_c none)
theorem am_pt_ild {want i : Nat} : am_pt (fun kt => am_ild len pc L S w k j kt want i) := by
  unfold am_ild
  rcases am_g L i with _ | (v | v)
  · exact am_pt_c _
  · exact am_pt_nx
  · exact am_pt_c _
theorem am_pt_ald {want i : Nat} : am_pt (fun kt => am_ald len pc L S w k j kt want i) := by
  unfold am_ald
  rcases am_g L i with _ | (v | v)
  · exact am_pt_c _
  · exact am_pt_c _
  · exact am_pt_nx
theorem am_pt_ist {want i : Nat} : am_pt (fun kt => am_ist T len pc L S w k j kt want i) := by
  unfold am_ist
  rcases S with _ | ⟨v | v, S⟩
  · exact am_pt_c _
  · exact am_pt_b am_pt_nx (am_pt_c _)
  · exact am_pt_c _
theorem am_pt_ast {want i : Nat} : am_pt (fun kt => am_ast T len pc L S w k j kt want i) := by
  unfold am_ast
  rcases S with _ | ⟨v | v, S⟩
  · exact am_pt_c _
  · exact am_pt_c _
  · exact am_pt_b am_pt_nx (am_pt_c _)
theorem am_pt_inc {i : Nat} {n : Int} : am_pt (fun kt => am_inc T len pc L S w k j kt i n) := by
  unfold am_inc
  rcases am_g L i with _ | (v | v)
  · exact am_pt_c _
  · exact am_pt_b am_pt_nx (am_pt_c _)
  · exact am_pt_c _
theorem am_pt_bin {f : Int32 → Int32 → Int32} : am_pt (fun kt => am_bin len pc L S w k j kt f) := by
  unfold am_bin
  rcases S with _ | ⟨v | v, _ | ⟨u | u, S⟩⟩ <;> first | exact am_pt_c _ | exact am_pt_nx
theorem am_pt_div {f : Int32 → Int32 → Int32} : am_pt (fun kt => am_div len pc L S w k j kt f) := by
  unfold am_div
  rcases S with _ | ⟨v | v, _ | ⟨u | u, S⟩⟩ <;> first | exact am_pt_c _ | exact am_pt_i (am_pt_c _) am_pt_nx
theorem am_pt_un {f : Int32 → Int32} : am_pt (fun kt => am_un len pc L S w k j kt f) := by
  unfold am_un
  rcases S with _ | ⟨v | v, S⟩ <;> first | exact am_pt_c _ | exact am_pt_nx
theorem am_pt_ifz {cd : ClassFile.Cond} {off : Int} : am_pt (fun kt => am_ifz len pc L S w k j kt cd off) := by
  unfold am_ifz
  rcases S with _ | ⟨v | v, S⟩
  · exact am_pt_c _
  · refine am_pt_b ?_ (am_pt_c _)
    cases cd <;> first | exact am_pt_i am_pt_jp am_pt_nx | exact am_pt_i am_pt_nx am_pt_jp
  · exact am_pt_c _
theorem am_pt_icm {cd : ClassFile.Cond} {off : Int} : am_pt (fun kt => am_icm len pc L S w k j kt cd off) := by
  unfold am_icm
  rcases S with _ | ⟨v | v, _ | ⟨u | u, S⟩⟩
  · exact am_pt_c _
  · exact am_pt_c _
  · refine am_pt_b ?_ (am_pt_c _)
    cases cd <;> first | exact am_pt_i am_pt_jp am_pt_nx | exact am_pt_i am_pt_nx am_pt_jp
  · exact am_pt_c _
  · exact am_pt_c _
  · exact am_pt_c _
  · exact am_pt_c _
theorem am_pt_sw {x : Int32} {ps : List (Int × Int)} {d : Int} {f : (am_S → Option am_Z) → Int → Option am_Z} (hf : ∀ o, am_pt (fun kt => f kt o)) : am_pt (fun kt => am_sw x ps d (f kt)) := by
  induction ps with
  | nil => exact hf d
  | cons q r ih => exact am_pt_i (hf q.2) ih
theorem am_pt_tsw {d lo hi : Int} {offs : List Int} : am_pt (fun kt => am_tsw pc L S w k j kt d lo hi offs) := by
  unfold am_tsw
  rcases S with _ | ⟨v | v, S⟩
  · exact am_pt_c _
  · exact am_pt_b (am_pt_sw (f := fun kt o => am_jw pc L w k j kt o S) (fun o => am_pt_jw)) (am_pt_c _)
  · exact am_pt_c _
theorem am_pt_lsw {d : Int} {ps : List (Int × Int)} : am_pt (fun kt => am_lsw pc L S w k j kt d ps) := by
  unfold am_lsw
  rcases S with _ | ⟨v | v, S⟩
  · exact am_pt_c _
  · exact am_pt_b (am_pt_sw (f := fun kt o => am_jw pc L w k j kt o S) (fun o => am_pt_jw)) (am_pt_c _)
  · exact am_pt_c _
theorem am_pt_gtf {x : Nat} : am_pt (fun kt => am_gtf T len pc L S w k j kt x) := by
  unfold am_gtf
  rcases S with _ | ⟨v | v | v, S⟩
  · exact am_pt_c _
  · exact am_pt_c _
  · dsimp only
    rcases w[v]? with _ | (y | ⟨ci, fs⟩)
    · exact am_pt_c _
    · rcases T.2.1 x with _ | u <;> exact am_pt_c _
    · rcases T.2.1 x with _ | ⟨cj, fi, mode⟩
      · exact am_pt_c _
      · refine am_pt_b ?_ (am_pt_c _)
        rcases fs[fi]? with _ | u
        · exact am_pt_c _
        · exact am_pt_nx
  · exact am_pt_c _
theorem am_pt_ptf {x : Nat} : am_pt (fun kt => am_ptf T len pc L S w k j kt x) := by
  unfold am_ptf
  rcases S with _ | ⟨v, _ | ⟨u | u | u, S⟩⟩
  · exact am_pt_c _
  · exact am_pt_c _
  · exact am_pt_c _
  · dsimp only
    rcases w[u]? with _ | (y | ⟨ci, fs⟩)
    · exact am_pt_c _
    · rcases T.2.1 x with _ | u <;> exact am_pt_c _
    · rcases T.2.1 x with _ | ⟨cj, fi, mode⟩
      · exact am_pt_c _
      · exact am_pt_b (am_pt_fi am_pt_sx) (am_pt_c _)
  · exact am_pt_c _
theorem am_pt_arl {ty : Nat} : am_pt (fun kt => am_arl T len pc L S w k j kt ty) := by
  unfold am_arl
  rcases S with _ | ⟨v | v, _ | ⟨u | u | u, S⟩⟩
  · exact am_pt_c _
  · exact am_pt_c _
  · exact am_pt_c _
  · dsimp only
    rcases w[u]? with _ | (⟨t, n, f⟩ | y)
    · exact am_pt_c _
    · exact am_pt_b (am_pt_ch am_pt_nx) (am_pt_c _)
    · exact am_pt_c _
  · rcases u with _ | u
    · exact am_pt_c _
    · dsimp only
      rcases T.2.2.2.2.2.2.1 u with _ | ⟨t, n, f⟩
      · exact am_pt_c _
      · exact am_pt_b (am_pt_ch am_pt_nx) (am_pt_c _)
  · exact am_pt_c _
  · exact am_pt_c _
  · exact am_pt_c _
  · exact am_pt_c _
theorem am_pt_ars {ty : Nat} : am_pt (fun kt => am_ars T len pc L S w k j kt ty) := by
  unfold am_ars
  rcases S with _ | ⟨v | v, _ | ⟨i | i, _ | ⟨u | u | u, S⟩⟩⟩ <;> first | exact am_pt_c _ | skip
  dsimp only
  rcases w[u]? with _ | (⟨t, n, f⟩ | y)
  · exact am_pt_c _
  · exact am_pt_b (am_pt_ch am_pt_sx) (am_pt_c _)
  · exact am_pt_c _
theorem am_pt_aln : am_pt (fun kt => am_aln T len pc L S w k j kt) := by
  unfold am_aln
  rcases S with _ | ⟨u | u | u, S⟩
  · exact am_pt_c _
  · exact am_pt_c _
  · dsimp only
    rcases w[u]? with _ | (⟨t, n, f⟩ | y)
    · exact am_pt_c _
    · exact am_pt_b am_pt_nx (am_pt_c _)
    · exact am_pt_c _
  · rcases u with _ | u
    · exact am_pt_c _
    · dsimp only
      rcases T.2.2.2.2.2.2.1 u with _ | ⟨t, n, f⟩
      · exact am_pt_c _
      · exact am_pt_nx
theorem am_pt_new {x : Nat} : am_pt (fun kt => am_new T len pc L S w k j kt x) := by
  unfold am_new
  rcases T.2.2.2.1 x with _ | ⟨ci, fs⟩
  · exact am_pt_c _
  · exact am_pt_b am_pt_nx (am_pt_c _)
theorem am_pt_nwa {a : ArrayType} : am_pt (fun kt => am_nwa T len pc L S w k j kt a) := by
  unfold am_nwa
  rcases am_tyn a with _ | t
  · exact am_pt_c _
  · rcases S with _ | ⟨v | v, S⟩
    · exact am_pt_c _
    · exact am_pt_b am_pt_nx (am_pt_c _)
    · exact am_pt_c _
theorem am_pt_inv : am_pt (fun kt => am_inv T len pc L w k j kt S) := by
  unfold am_inv
  rcases T.2.2.2.2.2.1 pc with _ | ⟨_ | sel, n, pre, f⟩
  · exact am_pt_c _
  · exact am_pt_b (am_pt_i (am_pt_ch (am_pt_b am_pt_nx (am_pt_c _))) (am_pt_c _)) (am_pt_c _)
  · exact am_pt_b (am_pt_cq (am_pt_b (am_pt_i (am_pt_cq (am_pt_b am_pt_sx (am_pt_c _))) (am_pt_c _)) (am_pt_c _))) (am_pt_c _)
theorem am_pt_do {i : Instr} : am_pt (fun kt => am_do T i len pc L S w k j kt) := by
  cases i with
  | iload_n x => exact am_pt_ild
  | iload x => exact am_pt_ild
  | aload_n x => exact am_pt_ald
  | aload x => exact am_pt_ald
  | istore_n x => exact am_pt_ist
  | istore x => exact am_pt_ist
  | astore_n x => exact am_pt_ast
  | astore x => exact am_pt_ast
  | iinc x n => exact am_pt_inc
  | iconst n => exact am_pt_nx
  | bipush n => exact am_pt_nx
  | sipush n => exact am_pt_nx
  | aconst_null => exact am_pt_nx
  | ldc x =>
    show am_pt (fun kt => match T.2.2.2.2.1 x with
      | some v => am_psh len pc L S w k j kt 2 v
      | none => none)
    rcases T.2.2.2.2.1 x with _ | v
    · exact am_pt_c _
    · exact am_pt_nx
  | iadd => exact am_pt_bin
  | isub => exact am_pt_bin
  | imul => exact am_pt_bin
  | iand => exact am_pt_bin
  | ior => exact am_pt_bin
  | ixor => exact am_pt_bin
  | ishl => exact am_pt_bin
  | ishr => exact am_pt_bin
  | iushr => exact am_pt_bin
  | idiv => exact am_pt_div
  | irem => exact am_pt_div
  | ineg => exact am_pt_un
  | i2c => exact am_pt_un
  | i2b => exact am_pt_un
  | dup => rcases S with _ | ⟨v, S⟩ <;> first | exact am_pt_c _ | exact am_pt_nx
  | pop => rcases S with _ | ⟨v, S⟩ <;> first | exact am_pt_c _ | exact am_pt_nx
  | dup2 => rcases S with _ | ⟨v, _ | ⟨u, S⟩⟩ <;> first | exact am_pt_c _ | exact am_pt_nx
  | dup_x1 => rcases S with _ | ⟨v, _ | ⟨u, S⟩⟩ <;> first | exact am_pt_c _ | exact am_pt_nx
  | dup_x2 => rcases S with _ | ⟨v, _ | ⟨u, _ | ⟨y, S⟩⟩⟩ <;> first | exact am_pt_c _ | exact am_pt_nx
  | ifCond cd off => exact am_pt_ifz
  | if_icmp cd off => exact am_pt_icm
  | goto off => exact am_pt_jp
  | tableswitch d lo hi offs => exact am_pt_tsw
  | lookupswitch d ps => exact am_pt_lsw
  | getfield x =>
    rcases S with _ | ⟨v | v | v, S⟩
    · exact am_pt_gtf (T := T) (len := len) (pc := pc) (L := L) (S := []) (w := w) (k := k) (j := j) (x := x)
    · exact am_pt_gtf (T := T) (len := len) (pc := pc) (L := L) (S := .inl v :: S) (w := w) (k := k) (j := j) (x := x)
    · exact am_pt_gtf (T := T) (len := len) (pc := pc) (L := L) (S := .inr (.inl v) :: S) (w := w) (k := k) (j := j) (x := x)
    · cases v with
      | zero => exact am_pt_gtf (T := T) (len := len) (pc := pc) (L := L) (S := .inr (.inr 0) :: S) (w := w) (k := k) (j := j) (x := x)
      | succ v => exact am_pt_inv (T := T) (len := len) (pc := pc) (L := L) (S := .inr (.inr (v + 1)) :: S) (w := w) (k := k) (j := j)
  | getstatic x => exact am_pt_inv
  | putfield x => exact am_pt_ptf
  | iaload => exact am_pt_arl
  | caload => exact am_pt_arl
  | baload => exact am_pt_arl
  | iastore => exact am_pt_ars
  | castore => exact am_pt_ars
  | bastore => exact am_pt_ars
  | arraylength => exact am_pt_aln
  | new x => exact am_pt_new
  | newarray a => exact am_pt_nwa
  | invokevirtual x => exact am_pt_inv
  | invokestatic x => exact am_pt_inv
  | invokespecial x => exact am_pt_inv
  | _ => exact am_pt_c _
end AMPT
theorem am_pt_comp {F : (am_S → Option am_Z) → Option am_Z} {g : (am_S → Option am_Z) → am_S → Option am_Z} (hF : am_pt F) (hg : ∀ st, am_pt (fun kt => g kt st)) : am_pt (fun kt => F (g kt)) := by
  intro kt z h
  rcases hF (g kt) z h with ⟨st, h1, h2⟩ | h1
  · rcases hg st kt z h1 with ⟨st2, h3, h4⟩ | h3
    · exact Or.inl ⟨st2, h3, fun kt' h' => h2 (g kt') (h4 kt' h')⟩
    · exact Or.inr fun kt' => h2 (g kt') (h3 kt')
  · exact Or.inr fun kt' => h1 (g kt')
theorem am_pt_go (T : am_T) (cuts : List Nat) : ∀ (n : Nat) (st : am_S), am_pt (fun kt => am_go T cuts n st kt) := by
  intro n
  induction n with
  | zero => intro st; exact am_pt_c _
  | succ n ih =>
    rintro ⟨pc, L, S, w, k, j⟩
    show am_pt (fun kt => match am_at T.1 pc with
      | some (i, len) => am_do T i len pc L S w k j (fun st' => bif cuts.contains st'.1 then kt st' else am_go T cuts n st' kt)
      | none => none)
    rcases am_at T.1 pc with _ | ⟨i, len⟩
    · exact am_pt_c _
    · exact am_pt_comp (F := fun kt => am_do T i len pc L S w k j kt) (g := fun kt st' => bif cuts.contains st'.1 then kt st' else am_go T cuts n st' kt) am_pt_do (fun st => am_pt_b (am_pt_k st) (ih st))
/-- the end that some count reaches -/
noncomputable def am_lf (T : am_T) (cuts : List Nat) (st : am_S) : Option am_Z := @dite _ (∃ z : am_Z, ∃ n : Nat, am_ev T cuts n st = some z) (Classical.propDecidable _) (fun h => some h.choose) (fun _ => none)
theorem am_lf_ev {T : am_T} {cuts : List Nat} {st : am_S} {z : am_Z} (h : am_lf T cuts st = some z) : ∃ n, am_ev T cuts n st = some z := by
  unfold am_lf at h
  split at h
  · rename_i hh
    have h1 := hh.choose_spec
    rw [Option.some.inj h] at h1
    exact h1
  · cases h
theorem am_lf_eq {T : am_T} {cuts : List Nat} {st : am_S} {z : am_Z} (h : am_go T cuts 400 st (am_lf T cuts) = some z) : am_lf T cuts st = some z := by
  have key : ∃ n, am_ev T cuts n st = some z := by
    rcases am_pt_go T cuts 400 st (am_lf T cuts) z h with ⟨st', h1, h2⟩ | h1
    · obtain ⟨n, hn⟩ := am_lf_ev h1
      exact ⟨n + 1, h2 (am_ev T cuts n) hn⟩
    · exact ⟨0 + 1, h1 (am_ev T cuts 0)⟩
  have uniq : ∀ (n : Nat) (st : am_S) (m : Nat) (z z' : am_Z), am_ev T cuts n st = some z → am_ev T cuts m st = some z' → z = z' := by
    intro n
    induction n with
    | zero => intro st m z z' h; cases h
    | succ n ih =>
      intro st m z z' h h'
      cases m with
      | zero => cases h'
      | succ m =>
        have h : am_go T cuts 400 st (am_ev T cuts n) = some z := h
        have h' : am_go T cuts 400 st (am_ev T cuts m) = some z' := h'
        rcases am_pt_go T cuts 400 st (am_ev T cuts n) z h with ⟨st', h1, h2⟩ | h1
        · cases hm : am_ev T cuts m st' with
          | some y =>
            have e := ih st' m z y h1 hm
            subst e
            have h3 := h2 (am_ev T cuts m) hm
            exact Option.some.inj (h3.symm.trans h')
          | none =>
            -- the other count gives nothing where the first one goes on: compare over a third way on
            obtain ⟨K, k1, k2⟩ : ∃ K : am_S → Option am_Z, K st' = some z ∧ ∀ s, ¬ s = st' → K s = am_ev T cuts m s := ⟨fun s => @ite _ (s = st') (Classical.propDecidable _) (some z) (am_ev T cuts m s), if_pos rfl, fun s hs => if_neg hs⟩
            have h3 := h2 K k1
            rcases am_pt_go T cuts 400 st (am_ev T cuts m) z' h' with ⟨st2, g1, g2⟩ | g1
            · by_cases hs : st2 = st'
              · subst hs; rw [hm] at g1; cases g1
              · have h4 := g2 K ((k2 st2 hs).trans g1)
                exact Option.some.inj (h3.symm.trans h4)
            · exact Option.some.inj (h3.symm.trans (g1 K))
        · exact Option.some.inj ((h1 (am_ev T cuts m)).symm.trans h')
  unfold am_lf
  have hh : ∃ z : am_Z, ∃ n : Nat, am_ev T cuts n st = some z := ⟨z, key⟩
  rw [dif_pos hh]
  obtain ⟨n, hn⟩ := hh.choose_spec
  obtain ⟨m, hm⟩ := key
  rw [uniq n st m _ z hn hm]
