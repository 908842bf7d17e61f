def kf_Text : List (Nat × Nat × Nat × Nat) := [(15, 6, 0, 3), (21, 6, 1, 0), (25, 6, 2, 0)]
def kd_put : List (Nat × Instr × Nat) := [(0, .aload_n 0, 1), (1, .getfield 21, 3), (4, .aload_n 0, 1), (5, .getfield 15, 3), (8, .arraylength, 1), (9, .if_icmp .lt 10, 3), (12, .aload_n 0, 1), (13, .iconst 1, 1), (14, .putfield 25, 3), (17, .iconst 0, 1), (18, .ireturn, 1), (19, .aload_n 0, 1), (20, .getfield 15, 3), (23, .aload_n 0, 1), (24, .getfield 21, 3), (27, .iload_n 1, 1), (28, .castore, 1), (29, .aload_n 0, 1), (30, .dup, 1), (31, .getfield 21, 3), (34, .iconst 1, 1), (35, .iadd, 1), (36, .putfield 21, 3), (39, .iconst 1, 1), (40, .ireturn, 1)]
theorem kd_put_ok : ∀ q ∈ kd_put, decode prog_8_method_2_code q.1 = .ok q.2 := by decide +kernel
def kb_put : am_B := (kd_put, am_as kf_Text, hn_ty, fun _ => none, fun _ => none, fun _ => none, fun _ => none, 2, 2, some .boolean)
def kw_Text (n : Nat) (len sp : Int32) (f : Nat → Int32) : List am_C := [.inr (6, [.inr (.inl 1), .inl len, .inl sp]), .inl (1, n, f)]
set_option maxRecDepth 10000 in
theorem t_put {n : Nat} {len sp c : Int32} {f : Nat → Int32} (h1 : am_inb len n = true) (h2 : len < Int32.ofNat n) : am_ev (am_mk kb_put 0 0 2) [] 1 (0, am_L0 [.inr (.inl 0), .inl c] 2, [], kw_Text n len sp f, 0, 0) = some (some (.inl 1), kw_Text n (len + 1) sp (upd f len.toNatClampNeg (vp_nar .char c))) := by
  refine am_if (fun _ => ?_) (fun h => absurd h2 h)
  refine am_ci h1 ?_
  rfl
