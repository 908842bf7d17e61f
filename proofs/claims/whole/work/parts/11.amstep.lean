/-! the machine's step, in the style of what comes behind it: kt -/
/-- a test that evaluation alone does not decide -/
def am_chk (b : Bool) (x : Option am_Z) : Option am_Z := if b = true then x else none
/-- the same, of a test that is to be met by a row of its own -/
noncomputable def am_chq (b : Bool) (x : Option am_Z) : Option am_Z := @ite _ (b = true) (Classical.propDecidable _) x none
def am_fic (ty : FieldType) (v : am_V) (x : Option am_Z) : Option am_Z := match ty with
  | .boolean => am_chk (am_fit .boolean v) x
  | .char => am_chk (am_fit .char v) x
  | ty => bif am_fit ty v then x else none
section AMDO
variable (T : am_T) (len pc : Nat) (L : List (Option am_V)) (S : List am_V) (w : List am_C) (k j : Nat) (kt : am_S → Option am_Z)
def am_nx (want : Nat) (L : List (Option am_V)) (S : List am_V) (w : List am_C) (k j : Nat) : Option am_Z := bif len == want then kt (pc + want, L, S, w, k, j) else none
/-- a world is handed on: a place to halt at -/
noncomputable def am_sx (want : Nat) (L : List (Option am_V)) (S : List am_V) (w : List am_C) (k j : Nat) : Option am_Z := @ite _ (w = w) (Classical.propDecidable _) (am_nx len pc kt want L S w k j) none
def am_jp (off : Int) (S : List am_V) : Option am_Z := bif len == 3 && am_ok0 pc off then kt (am_tg pc off, L, S, w, k, j) else none
def am_ild (want i : Nat) : Option am_Z := match am_g L i with
  | some (.inl v) => am_nx len pc kt want L (.inl v :: S) w k j
  | _ => none
def am_ald (want i : Nat) : Option am_Z := match am_g L i with
  | some (.inr v) => am_nx len pc kt want L (.inr v :: S) w k j
  | _ => none
def am_nl (T : am_T) : Nat := T.2.2.2.2.2.2.2.2.1
def am_ist (want i : Nat) : Option am_Z := match S with
  | .inl v :: S => bif Nat.blt i (am_nl T) then am_nx len pc kt want (L.set i (some (.inl v))) S w k j else none
  | _ => none
def am_ast (want i : Nat) : Option am_Z := match S with
  | .inr v :: S => bif Nat.blt i (am_nl T) then am_nx len pc kt want (L.set i (some (.inr v))) S w k j else none
  | _ => none
def am_inc (i : Nat) (n : Int) : Option am_Z := match am_g L i with
  | some (.inl v) => bif Nat.blt i (am_nl T) then am_nx len pc kt 3 (L.set i (some (.inl (v + Int32.ofInt n)))) S w k j else none
  | _ => none
def am_psh (want : Nat) (v : am_V) : Option am_Z := am_nx len pc kt want L (v :: S) w k j
def am_bin (f : Int32 → Int32 → Int32) : Option am_Z := match S with
  | .inl y :: .inl x :: S => am_nx len pc kt 1 L (.inl (f x y) :: S) w k j
  | _ => none
def am_div (f : Int32 → Int32 → Int32) : Option am_Z := match S with
  | .inl y :: .inl x :: S => if y = 0 then none else am_nx len pc kt 1 L (.inl (f x y) :: S) w k j
  | _ => none
def am_un (f : Int32 → Int32) : Option am_Z := match S with
  | .inl x :: S => am_nx len pc kt 1 L (.inl (f x) :: S) w k j
  | _ => none
def am_stk (f : List am_V → Option (List am_V)) : Option am_Z := match f S with
  | some S => am_nx len pc kt 1 L S w k j
  | none => none
def am_ifz (c : ClassFile.Cond) (off : Int) : Option am_Z := match S with
  | .inl x :: S => bif am_ok0 pc off && len == 3 then (match c with
    | .eq => if x = 0 then am_jp len pc L w k j kt off S else am_nx len pc kt 3 L S w k j
    | .ne => if x = 0 then am_nx len pc kt 3 L S w k j else am_jp len pc L w k j kt off S
    | .lt => if x < 0 then am_jp len pc L w k j kt off S else am_nx len pc kt 3 L S w k j
    | .ge => if 0 ≤ x then am_jp len pc L w k j kt off S else am_nx len pc kt 3 L S w k j
    | .gt => if 0 < x then am_jp len pc L w k j kt off S else am_nx len pc kt 3 L S w k j
    | .le => if x ≤ 0 then am_jp len pc L w k j kt off S else am_nx len pc kt 3 L S w k j) else none
  | _ => none
def am_icm (c : ClassFile.Cond) (off : Int) : Option am_Z := match S with
  | .inl y :: .inl x :: S => bif am_ok0 pc off && len == 3 then (match c with
    | .eq => if x = y then am_jp len pc L w k j kt off S else am_nx len pc kt 3 L S w k j
    | .ne => if x = y then am_nx len pc kt 3 L S w k j else am_jp len pc L w k j kt off S
    | .lt => if x < y then am_jp len pc L w k j kt off S else am_nx len pc kt 3 L S w k j
    | .ge => if y ≤ x then am_jp len pc L w k j kt off S else am_nx len pc kt 3 L S w k j
    | .gt => if y < x then am_jp len pc L w k j kt off S else am_nx len pc kt 3 L S w k j
    | .le => if x ≤ y then am_jp len pc L w k j kt off S else am_nx len pc kt 3 L S w k j) else none
  | _ => none
/-- a switch, as a row of tests -/
def am_sw (x : Int32) (ps : List (Int × Int)) (d : Int) (f : Int → Option am_Z) : Option am_Z := match ps with
  | [] => f d
  | q :: r => if x = Int32.ofInt q.1 then f q.2 else am_sw x r d f
def am_jw (off : Int) (S : List am_V) : Option am_Z := bif am_ok0 pc off then kt (am_tg pc off, L, S, w, k, j) else none
def am_tps (lo : Int) (l : List Int) : List (Int × Int) := match l with
  | [] => []
  | o :: r => (lo, o) :: am_tps (lo + 1) r
def am_r31 (x : Int) : Bool := decide (-2147483648 ≤ x) && decide (x ≤ 2147483647)
def am_tsw (d lo hi : Int) (offs : List Int) : Option am_Z := match S with
  | .inl x :: S => bif am_r31 lo && am_r31 hi && (lo + offs.length == hi + 1) then am_sw x (am_tps lo offs) d (fun o => am_jw pc L w k j kt o S) else none
  | _ => none
def am_lsw (d : Int) (ps : List (Int × Int)) : Option am_Z := match S with
  | .inl x :: S => bif ps.all (fun q => am_r31 q.1) && (ps.zip (ps.drop 1)).all (fun (a, next) => decide (a.1 < next.1)) then am_sw x ps d (fun o => am_jw pc L w k j kt o S) else none
  | _ => none
def am_gtf (index : Nat) : Option am_Z := match S with
  | .inr (.inl q) :: S => match w[q]?, T.2.1 index with
    | some (.inr (ci, fs)), some (cj, fi, mode) => bif ci == cj && Nat.ble mode 4 then (match fs[fi]? with
      | some v => am_nx len pc kt 3 L (v :: S) w k j
      | none => none) else none
    | _, _ => none
  | _ => none
noncomputable def am_ptf (index : Nat) : Option am_Z := match S with
  | v :: .inr (.inl q) :: S => match w[q]?, T.2.1 index with
    | some (.inr (ci, fs)), some (cj, fi, mode) => bif ci == cj && Nat.ble mode 2 && Nat.blt fi fs.length then am_fic (T.2.2.1 ci fi) v (am_sx len pc kt 3 L S (w.set q (.inr (ci, fs.set fi v))) k j) else none
    | _, _ => none
  | _ => none
def am_inb (i : Int32) (n : Nat) : Bool := !(decide (i < 0) || Nat.ble n i.toNatClampNeg)
def am_nt (T : am_T) : Nat := T.2.2.2.2.2.2.2.1
/-- a load out of an array of type ty: of the world, or (ints) outside -/
def am_arl (ty : Nat) : Option am_Z := match S with
  | .inl i :: .inr (.inl q) :: S => (match w[q]? with
    | some (.inl (t, n, f)) => bif t == ty && Nat.blt t (am_nt T) then am_chk (am_inb i n) (am_nx len pc kt 1 L (.inl (f i.toNatClampNeg) :: S) w k j) else none
    | _ => none)
  | .inl i :: .inr (.inr (o + 1)) :: S => (match T.2.2.2.2.2.2.1 o with
    | some (t, n, f) => bif t == ty || (t == 3 && ty == 2) then am_chk (am_inb i n) (am_nx len pc kt 1 L (.inl (f i.toNatClampNeg) :: S) w k j) else none
    | none => none)
  | _ => none
def am_nar (ty : Nat) (x : Int32) : Int32 := match ty with
  | 0 => x
  | t + 1 => vp_nar (am_ty (t + 1)) x
noncomputable def am_ars (ty : Nat) : Option am_Z := match S with
  | .inl x :: .inl i :: .inr (.inl q) :: S => (match w[q]? with
    | some (.inl (t, n, f)) => bif t == ty && Nat.blt t (am_nt T) then am_chk (am_inb i n) (am_sx len pc kt 1 L S (w.set q (.inl (t, n, upd f i.toNatClampNeg (am_nar ty x)))) k j) else none
    | _ => none)
  | _ => none
def am_aln : Option am_Z := match S with
  | .inr (.inl q) :: S => (match w[q]? with
    | some (.inl (t, n, _)) => bif Nat.blt t (am_nt T) then am_nx len pc kt 1 L (.inl (Int32.ofNat n) :: S) w k j else none
    | _ => none)
  | .inr (.inr (o + 1)) :: S => (match T.2.2.2.2.2.2.1 o with
    | some (_, n, _) => am_nx len pc kt 1 L (.inl (Int32.ofNat n) :: S) w k j
    | none => none)
  | _ => none
def am_mc (T : am_T) : Nat := T.2.2.2.2.2.2.2.2.2.1
def am_ms (T : am_T) : Nat := T.2.2.2.2.2.2.2.2.2.2.1
def am_n0 (T : am_T) : Nat := T.2.2.2.2.2.2.2.2.2.2.2.1
def am_rt (T : am_T) : Option FieldType := T.2.2.2.2.2.2.2.2.2.2.2.2
/-- refers to places under n alone -/
def am_lo (n : Nat) (v : am_V) : Bool := match v with
  | .inr (.inl q) => Nat.blt q n
  | _ => true
def am_loC (n : Nat) (x : am_C) : Bool := match x with
  | .inl _ => true
  | .inr (_, fs) => fs.all (am_lo n)
def am_loO (n : Nat) (o : Option am_V) : Bool := match o with
  | some v => am_lo n v
  | none => true
def am_low (n : Nat) (L : List (Option am_V)) (S : List am_V) (w : List am_C) : Bool := L.all (am_loO n) && S.all (am_lo n) && w.all (am_loC n)
def am_new (index : Nat) : Option am_Z := match T.2.2.2.1 index with
  | some (ci, fs) => bif am_low w.length L S w && fs.all (am_lo w.length) && Nat.ble (am_n0 T) w.length && Nat.ble (k + 1) (am_mc T) && Nat.ble (j + fs.length) (am_ms T)
      then am_nx len pc kt 3 L (.inr (.inl w.length) :: S) (w ++ [.inr (ci, fs)]) (k + 1) (j + fs.length) else none
  | none => none
def am_tyn (a : ArrayType) : Option Nat := match a with
  | .int => some 0
  | .char => some 1
  | .boolean => some 2
  | .byte => some 3
  | .long => some 4
  | _ => none
def am_nwa (a : ArrayType) : Option am_Z := match am_tyn a, S with
  | some t, .inl n :: S => bif !(decide (n < 0)) && (Nat.ble (n.toNatClampNeg * 8) 536870912 && (Nat.blt t (am_nt T) && (am_low w.length L S w && (Nat.ble (am_n0 T) w.length && (Nat.ble (k + 1) (am_mc T) && Nat.ble (j + n.toNatClampNeg) (am_ms T))))))
      then am_nx len pc kt 2 L (.inr (.inl w.length) :: S) (w ++ [.inl (t, n.toNatClampNeg, fun _ => 0)]) (k + 1) (j + n.toNatClampNeg) else none
  | _, _ => none
end AMDO
/-! a call: the cells that the arguments reach go to the callee, under places of its own -/
/-- a value, under the callee's places -/
def am_dn (sel : List Nat) (v : am_V) : am_V := match v with
  | .inr (.inl q) => .inr (.inl (sel.idxOf q))
  | v => v
def am_dnC (sel : List Nat) (x : am_C) : am_C := match x with
  | .inl a => .inl a
  | .inr (c, fs) => .inr (c, fs.map (am_dn sel))
def am_sub (w : List am_C) (sel : List Nat) : List am_C := sel.filterMap (fun q => (w[q]?).map (am_dnC sel))
/-- a value of the callee's, under the caller's places; n: how many the caller had -/
def am_up (sel : List Nat) (n : Nat) (v : am_V) : am_V := match v with
  | .inr (.inl q) => .inr (.inl (bif Nat.blt q sel.length then sel.getD q 0 else n + (q - sel.length)))
  | v => v
def am_upC (sel : List Nat) (n : Nat) (x : am_C) : am_C := match x with
  | .inl a => .inl a
  | .inr (c, fs) => .inr (c, fs.map (am_up sel n))
def am_mxc (sel : List Nat) (w1 : List am_C) (n q : Nat) (x : am_C) : am_C := bif sel.contains q then am_upC sel n (w1.getD (sel.idxOf q) x) else x
def am_mx (sel : List Nat) (w1 : List am_C) (n : Nat) : Nat → List am_C → List am_C
  | _, [] => []
  | q, x :: r => am_mxc sel w1 n q x :: am_mx sel w1 n (q + 1) r
def am_mix (w : List am_C) (sel : List Nat) (w1 : List am_C) : List am_C := match sel, w1 with
  | [], [] => w
  | sel, w1 => am_mx sel w1 w.length 0 w ++ (w1.drop sel.length).map (am_upC sel w.length)
def am_hin (sel : List Nat) (v : am_V) : Bool := match v with
  | .inr (.inl q) => sel.contains q
  | _ => true
def am_hinC (sel : List Nat) (x : am_C) : Bool := match x with
  | .inl _ => true
  | .inr (_, fs) => fs.all (am_hin sel)
/-- the selection is what a call may be made with -/
def am_sow (w : List am_C) (sel : List Nat) : Bool := sel.all (fun q => Nat.blt q w.length) && (va_nd sel && sel.all (fun q => match w[q]? with
  | some x => am_hinC sel x
  | none => false))
/-- the world is of n cells, and refers to them alone -/
def am_wl (w1 : List am_C) (n : Nat) : Bool := w1.length == n && w1.all (am_loC n)
def am_ans (sel : List Nat) (n : Nat) (r : Option am_V) : List am_V := match r with
  | some v => [am_up sel n v]
  | none => []
section AMCALL
variable (T : am_T) (len pc : Nat) (L : List (Option am_V)) (w : List am_C) (k j : Nat) (kt : am_S → Option am_Z)
/-- behind the call -/
noncomputable def am_aft (S : List am_V) (sel : List Nat) (r : Option am_V × List am_C × Nat × Nat) : Option am_Z :=
  am_chq (Nat.ble sel.length r.2.1.length && ((r.2.1.length == sel.length && (r.2.1.all (am_loC sel.length) && am_loO sel.length r.1)) || (am_low w.length L S w && Nat.ble (am_n0 T) w.length)))
    (bif Nat.ble (k + r.2.2.1) (am_mc T) && (Nat.ble (j + r.2.2.2) (am_ms T) && Nat.ble S.length 8) then am_sx len pc kt 3 L (am_ans sel w.length r.1 ++ S) (am_mix w sel r.2.1) (k + r.2.2.1) (j + r.2.2.2) else none)
noncomputable def am_cal (a rest : List am_V) (sel : List Nat) (pre : List am_V → List am_C → Prop) (f : am_M) : Option am_Z :=
  am_chq (am_sow w sel) (bif a.all (am_hin sel) then @ite _ (pre (a.map (am_dn sel)) (am_sub w sel)) (Classical.propDecidable _) (am_aft T len pc L w k j kt rest sel (f (a.map (am_dn sel)) (am_sub w sel))) none else none)
/-- a call that takes the whole world along -/
noncomputable def am_afx (S : List am_V) (r : Option am_V × List am_C × Nat × Nat) : Option am_Z :=
  bif Nat.ble w.length r.2.1.length && (Nat.ble (k + r.2.2.1) (am_mc T) && (Nat.ble (j + r.2.2.2) (am_ms T) && (Nat.ble S.length 8 && (S.all (am_lo w.length) && Nat.ble (am_n0 T) w.length))))
    then am_nx len pc kt 3 L (r.1.toList ++ S) r.2.1 (k + r.2.2.1) (j + r.2.2.2) else none
noncomputable def am_afw (S : List am_V) (r : Option am_V × List am_C × Nat × Nat) : Option am_Z := am_chk (L.all (am_loO w.length)) (am_afx T len pc L w k j kt S r)
noncomputable def am_caw (a rest : List am_V) (pre : List am_V → List am_C → Prop) (f : am_M) : Option am_Z :=
  @ite _ (pre a w) (Classical.propDecidable _) (am_afw T len pc L w k j kt rest (f a w)) none
noncomputable def am_inv (S : List am_V) : Option am_Z := match T.2.2.2.2.2.1 pc with
  | some (some sel, n, pre, f) => bif Nat.ble n S.length then am_cal T len pc L w k j kt (S.take n).reverse (S.drop n) sel pre f else none
  | some (none, n, pre, f) => bif Nat.ble n S.length then am_caw T len pc L w k j kt (S.take n).reverse (S.drop n) pre f else none
  | none => none
end AMCALL
/-- an answer -/
def am_end (T : am_T) (len k j : Nat) : Bool := len == 1 && (Nat.ble k (am_mc T) && Nat.ble j (am_ms T))
def am_ret (T : am_T) (i : Instr) (len : Nat) (S : List am_V) (w : List am_C) (k j : Nat) : Option am_Z := match i with
  | .return_ => bif am_end T len k j then (match am_rt T, S with
    | none, [] => some (none, w)
    | _, _ => none) else none
  | .ireturn => bif am_end T len k j then (match am_rt T, S with
    | some ty, [.inl v] => am_fic ty (.inl v) (some (some (.inl v), w))
    | _, _ => none) else none
  | .areturn => bif am_end T len k j then (match am_rt T, S with
    | some ty, [.inr v] => am_fic ty (.inr v) (some (some (.inr v), w))
    | _, _ => none) else none
  | _ => none
noncomputable def am_do (T : am_T) (i : Instr) (len pc : Nat) (L : List (Option am_V)) (S : List am_V) (w : List am_C) (k j : Nat) (kt : am_S → Option am_Z) : Option am_Z := match i with
  | .iload_n x => am_ild len pc L S w k j kt 1 x.val
  | .iload x => am_ild len pc L S w k j kt 2 x
  | .aload_n x => am_ald len pc L S w k j kt 1 x.val
  | .aload x => am_ald len pc L S w k j kt 2 x
  | .istore_n x => am_ist T len pc L S w k j kt 1 x.val
  | .istore x => am_ist T len pc L S w k j kt 2 x
  | .astore_n x => am_ast T len pc L S w k j kt 1 x.val
  | .astore x => am_ast T len pc L S w k j kt 2 x
  | .iinc x n => am_inc T len pc L S w k j kt x n
  | .iconst n => am_psh len pc L S w k j kt 1 (.inl (Int32.ofInt n))
  | .bipush n => am_psh len pc L S w k j kt 2 (.inl (Int8.ofInt n).toInt32)
  | .sipush n => am_psh len pc L S w k j kt 3 (.inl (Int16.ofInt n).toInt32)
  | .ldc x => (match T.2.2.2.2.1 x with
    | some v => am_psh len pc L S w k j kt 2 v
    | none => none)
  | .aconst_null => am_psh len pc L S w k j kt 1 (.inr (.inr 0))
  | .iadd => am_bin len pc L S w k j kt (fun x y => x + y)
  | .isub => am_bin len pc L S w k j kt (fun x y => x - y)
  | .imul => am_bin len pc L S w k j kt (fun x y => x * y)
  | .iand => am_bin len pc L S w k j kt (fun x y => x &&& y)
  | .ior => am_bin len pc L S w k j kt (fun x y => x ||| y)
  | .ixor => am_bin len pc L S w k j kt (fun x y => x ^^^ y)
  | .ishl => am_bin len pc L S w k j kt (fun x y => x <<< (y &&& 31))
  | .ishr => am_bin len pc L S w k j kt (fun x y => x >>> (y &&& 31))
  | .iushr => am_bin len pc L S w k j kt (fun x y => (x.toUInt32 >>> (y.toUInt32 &&& Int32.toUInt32 31)).toInt32)
  | .idiv => am_div len pc L S w k j kt (fun x y => x / y)
  | .irem => am_div len pc L S w k j kt (fun x y => x - x / y * y)
  | .ineg => am_un len pc L S w k j kt (fun x => -x)
  | .i2c => am_un len pc L S w k j kt (fun x => (x.toUInt32 % 65536).toInt32)
  | .i2b => am_un len pc L S w k j kt (fun x => x.toInt8.toInt32)
  | .dup => (match S with
    | v :: S => am_nx len pc kt 1 L (v :: v :: S) w k j
    | _ => none)
  | .pop => (match S with
    | _ :: S => am_nx len pc kt 1 L S w k j
    | _ => none)
  | .dup2 => (match S with
    | v :: u :: S => am_nx len pc kt 1 L (v :: u :: v :: u :: S) w k j
    | _ => none)
  | .dup_x1 => (match S with
    | v :: u :: S => am_nx len pc kt 1 L (v :: u :: v :: S) w k j
    | _ => none)
  | .dup_x2 => (match S with
    | v :: u :: z :: S => am_nx len pc kt 1 L (v :: u :: z :: v :: S) w k j
    | _ => none)
  | .ifCond c off => am_ifz len pc L S w k j kt c off
  | .if_icmp c off => am_icm len pc L S w k j kt c off
  | .goto off => am_jp len pc L w k j kt off S
  | .tableswitch d lo hi offs => am_tsw pc L S w k j kt d lo hi offs.toList
  | .lookupswitch d ps => am_lsw pc L S w k j kt d ps.toList
  | .getfield x => (match S with
    | .inr (.inr (_ + 1)) :: _ => am_inv T len pc L w k j kt S
    | _ => am_gtf T len pc L S w k j kt x)
  | .getstatic _ => am_inv T len pc L w k j kt S
  | .putfield x => am_ptf T len pc L S w k j kt x
  | .iaload => am_arl T len pc L S w k j kt 0
  | .caload => am_arl T len pc L S w k j kt 1
  | .baload => am_arl T len pc L S w k j kt 2
  | .iastore => am_ars T len pc L S w k j kt 0
  | .castore => am_ars T len pc L S w k j kt 1
  | .bastore => am_ars T len pc L S w k j kt 2
  | .arraylength => am_aln T len pc L S w k j kt
  | .new x => am_new T len pc L S w k j kt x
  | .newarray a => am_nwa T len pc L S w k j kt a
  | .invokevirtual _ => am_inv T len pc L w k j kt S
  | .invokestatic _ => am_inv T len pc L w k j kt S
  | .invokespecial _ => am_inv T len pc L w k j kt S
  | i => am_ret T i len S w k j
/-- on and on, until a cut (a loop's head) or the end -/
noncomputable def am_go (T : am_T) (cuts : List Nat) (n : Nat) (st : am_S) (kt : am_S → Option am_Z) : Option am_Z := match n with
  | 0 => none
  | n + 1 => match st with
    | (pc, L, S, w, k, j) => match am_at T.1 pc with
      | some (i, len) => am_do T i len pc L S w k j (fun st' => bif cuts.contains st'.1 then kt st' else am_go T cuts n st' kt)
      | none => none
noncomputable def am_ev (T : am_T) (cuts : List Nat) (n : Nat) (st : am_S) : Option am_Z := match n with
  | 0 => none
  | n + 1 => am_go T cuts 400 st (am_ev T cuts n)
theorem am_ci {c : Prop} {d : Decidable c} {x y z : Option am_Z} (h : c) (k : x = z) : @ite _ c d x y = z := by
  rw [if_pos h]
  exact k
theorem am_cn {c : Prop} {d : Decidable c} {x y z : Option am_Z} (h : ¬ c) (k : y = z) : @ite _ c d x y = z := by
  rw [if_neg h]
  exact k
theorem am_if {c : Prop} {d : Decidable c} {a b z : Option am_Z} (ht : c → a = z) (hf : ¬ c → b = z) : @ite _ c d a b = z := by
  by_cases h : c
  · rw [if_pos h]; exact ht h
  · rw [if_neg h]; exact hf h
theorem am_sp {len pc want k j : Nat} {kt : am_S → Option am_Z} {L : List (Option am_V)} {S : List am_V} {w w' : List am_C} {d : Decidable (w = w)} {z : Option am_Z} (e : w = w') (h : am_nx len pc kt want L S w' k j = z) : @ite _ (w = w) d (am_nx len pc kt want L S w k j) none = z := by
  subst e
  exact am_ci rfl h
