/-! what each call owes to the invariant; the law's loop -/
abbrev lw_Iv : Type := qt6 → qt6 → qt2 → qt0 → qt5 → qt1 → qt6 → hs → Prop
def ok_type (Iv : lw_Iv) : Prop := ∀ (r : qt6) (t : qt6) (m : qt2) (y : qt0) (x : qt5) (c : qt1) (u : qt6) (s : hs), Iv r t m y x c u s → ∀ p0 : Int32, 0 ≤ p0 → p0 ≤ 65535 → wp9_type r t m y x c u p0 ∧ wp10_type s p0 ∧ ((fn9_type r t m y x c u p0).1) = ((fn10_type s p0).1) ∧ Iv ((fn9_type r t m y x c u p0).2) t m y x c u ((fn10_type s p0).2)
def ok_wipe (Iv : lw_Iv) : Prop := ∀ (r : qt6) (t : qt6) (m : qt2) (y : qt0) (x : qt5) (c : qt1) (u : qt6) (s : hs), Iv r t m y x c u s → wp9_wipe r t m y x c u ∧ wp10_wipe s ∧ ((fn9_wipe r t m y x c u).1) = ((fn10_wipe s).1) ∧ Iv ((fn9_wipe r t m y x c u).2) t m y x c u ((fn10_wipe s).2)
def ok_add (Iv : lw_Iv) : Prop := ∀ (r : qt6) (t : qt6) (m : qt2) (y : qt0) (x : qt5) (c : qt1) (u : qt6) (s : hs), Iv r t m y x c u s → (wp9_add r t m y x c u ∧ wp10_add s ∧ wp10_thrown ((fn10_add s).2) ∧ (fn10_thrown ((fn10_add s).2)) = 0 ∧ ((fn9_add r t m y x c u).1) = ((fn10_add s).1) ∧ Iv ((fn9_add r t m y x c u).2.1) ((fn9_add r t m y x c u).2.2.1) m ((fn9_add r t m y x c u).2.2.2) x c u ((fn10_add s).2)) ∨ (wt9_add_21 r t m y x c u ∧ wp10_add s ∧ wp10_thrown ((fn10_add s).2) ∧ (fn10_thrown ((fn10_add s).2)) = 1 ∧ Iv r t m y x c u ((fn10_add s).2))
def ok_clear (Iv : lw_Iv) : Prop := ∀ (r : qt6) (t : qt6) (m : qt2) (y : qt0) (x : qt5) (c : qt1) (u : qt6) (s : hs), Iv r t m y x c u s → wp9_clear r t m y x c u ∧ wp10_clear s ∧ ((fn9_clear r t m y x c u).1) = ((fn10_clear s).1) ∧ Iv r ((fn9_clear r t m y x c u).2.1) m ((fn9_clear r t m y x c u).2.2) x c u ((fn10_clear s).2)
def ok_compile (Iv : lw_Iv) : Prop := ∀ (r : qt6) (t : qt6) (m : qt2) (y : qt0) (x : qt5) (c : qt1) (u : qt6) (s : hs), Iv r t m y x c u s → (wp9_compile r t m y x c u ∧ wp10_compile s ∧ wp10_thrown ((fn10_compile s).2) ∧ (fn10_thrown ((fn10_compile s).2)) = 0 ∧ ((fn9_compile r t m y x c u).1) = ((fn10_compile s).1) ∧ Iv r t m ((fn9_compile r t m y x c u).2.1) ((fn9_compile r t m y x c u).2.2.1) ((fn9_compile r t m y x c u).2.2.2) u ((fn10_compile s).2)) ∨ (wt9_compile_14 r t m y x c u ∧ wp10_compile s ∧ wp10_thrown ((fn10_compile s).2) ∧ (fn10_thrown ((fn10_compile s).2)) = 1 ∧ Iv r t m ((fn0_reads y x c t).2.1) ((fn0_reads y x c t).2.2.1) ((fn0_reads y x c t).2.2.2) u ((fn10_compile s).2))
def ok_accepts (Iv : lw_Iv) : Prop := ∀ (r : qt6) (t : qt6) (m : qt2) (y : qt0) (x : qt5) (c : qt1) (u : qt6) (s : hs), Iv r t m y x c u s → wp9_accepts r t m y x c u ∧ wp10_accepts s ∧ ((fn9_accepts r t m y x c u).1) = ((fn10_accepts s).1) ∧ Iv r t m ((fn9_accepts r t m y x c u).2.1) ((fn9_accepts r t m y x c u).2.2.1) ((fn9_accepts r t m y x c u).2.2.2) u ((fn10_accepts s).2)
def ok_fault (Iv : lw_Iv) : Prop := ∀ (r : qt6) (t : qt6) (m : qt2) (y : qt0) (x : qt5) (c : qt1) (u : qt6) (s : hs), Iv r t m y x c u s → wp9_fault r t m y x c u ∧ wp10_fault s ∧ (fn9_fault r t m y x c u) = ((fn10_fault s).1) ∧ Iv r t m y x c u ((fn10_fault s).2)
def ok_hole (Iv : lw_Iv) : Prop := ∀ (r : qt6) (t : qt6) (m : qt2) (y : qt0) (x : qt5) (c : qt1) (u : qt6) (s : hs), Iv r t m y x c u s → ∀ p0 : Int32, wp9_hole r t m y x c u p0 ∧ wp10_hole s p0 ∧ (fn9_hole r t m y x c u p0) = ((fn10_hole s p0).1) ∧ Iv r t m y x c u ((fn10_hole s p0).2)
def ok_item (Iv : lw_Iv) : Prop := ∀ (r : qt6) (t : qt6) (m : qt2) (y : qt0) (x : qt5) (c : qt1) (u : qt6) (s : hs), Iv r t m y x c u s → ∀ p0 : Int32, (wp9_item r t m y x c u p0 ∧ wp10_item s p0 ∧ wp10_thrown ((fn10_item s p0).2) ∧ (fn10_thrown ((fn10_item s p0).2)) = 0 ∧ ((fn9_item r t m y x c u p0).1) = ((fn10_item s p0).1) ∧ Iv ((fn9_item r t m y x c u p0).2.1) t ((fn9_item r t m y x c u p0).2.2) y x c u ((fn10_item s p0).2)) ∨ (wt9_item_11 r t m y x c u p0 ∧ wp10_item s p0 ∧ wp10_thrown ((fn10_item s p0).2) ∧ (fn10_thrown ((fn10_item s p0).2)) = 1 ∧ Iv r t m y x c u ((fn10_item s p0).2)) ∨ (wt9_item_36 r t m y x c u p0 ∧ wp10_item s p0 ∧ wp10_thrown ((fn10_item s p0).2) ∧ (fn10_thrown ((fn10_item s p0).2)) = 2 ∧ Iv r t ((fn2_keep m r p0).2) y x c u ((fn10_item s p0).2))
def ok_forget (Iv : lw_Iv) : Prop := ∀ (r : qt6) (t : qt6) (m : qt2) (y : qt0) (x : qt5) (c : qt1) (u : qt6) (s : hs), Iv r t m y x c u s → ∀ p0 : Int32, (wp9_forget r t m y x c u p0 ∧ wp10_forget s p0 ∧ wp10_thrown ((fn10_forget s p0).2) ∧ (fn10_thrown ((fn10_forget s p0).2)) = 0 ∧ ((fn9_forget r t m y x c u p0).1) = ((fn10_forget s p0).1) ∧ Iv r t ((fn9_forget r t m y x c u p0).2) y x c u ((fn10_forget s p0).2)) ∨ (wt9_forget_11 r t m y x c u p0 ∧ wp10_forget s p0 ∧ wp10_thrown ((fn10_forget s p0).2) ∧ (fn10_thrown ((fn10_forget s p0).2)) = 1 ∧ Iv r t m y x c u ((fn10_forget s p0).2))
def ok_write (Iv : lw_Iv) : Prop := ∀ (r : qt6) (t : qt6) (m : qt2) (y : qt0) (x : qt5) (c : qt1) (u : qt6) (s : hs), Iv r t m y x c u s → (wp9_write r t m y x c u ∧ wp10_write s ∧ wp10_thrown ((fn10_write s).2) ∧ (fn10_thrown ((fn10_write s).2)) = 0 ∧ ((fn9_write r t m y x c u).1) = ((fn10_write s).1) ∧ Iv r t ((fn9_write r t m y x c u).2.1) y x c ((fn9_write r t m y x c u).2.2) ((fn10_write s).2)) ∨ (wt9_write_10 r t m y x c u ∧ wp10_write s ∧ wp10_thrown ((fn10_write s).2) ∧ (fn10_thrown ((fn10_write s).2)) = 1 ∧ Iv r t m y x c u ((fn10_write s).2)) ∨ (wt9_write_41 r t m y x c u ∧ wp10_write s ∧ wp10_thrown ((fn10_write s).2) ∧ (fn10_thrown ((fn10_write s).2)) = 2 ∧ Iv r t ((fn8_fill u x m).2.2) y x c ((fn8_fill u x m).2.1) ((fn10_write s).2))
def ok_written (Iv : lw_Iv) : Prop := ∀ (r : qt6) (t : qt6) (m : qt2) (y : qt0) (x : qt5) (c : qt1) (u : qt6) (s : hs), Iv r t m y x c u s → wp9_written r t m y x c u ∧ wp10_written s ∧ (fn9_written r t m y x c u) = ((fn10_written s).1) ∧ Iv r t m y x c u ((fn10_written s).2)
def ok_letter (Iv : lw_Iv) : Prop := ∀ (r : qt6) (t : qt6) (m : qt2) (y : qt0) (x : qt5) (c : qt1) (u : qt6) (s : hs), Iv r t m y x c u s → ∀ p0 : Int32, wp9_letter r t m y x c u p0 ∧ wp10_letter s p0 ∧ (fn9_letter r t m y x c u p0) = ((fn10_letter s p0).1) ∧ Iv r t m y x c u ((fn10_letter s p0).2)
def lw_ok (Iv : lw_Iv) : Prop := ok_type Iv ∧ ok_wipe Iv ∧ ok_add Iv ∧ ok_clear Iv ∧ ok_compile Iv ∧ ok_accepts Iv ∧ ok_fault Iv ∧ ok_hole Iv ∧ ok_item Iv ∧ ok_forget Iv ∧ ok_write Iv ∧ ok_written Iv ∧ ok_letter Iv
theorem lw_dn (n : Nat) : Int32.ofNat (n + 2) - 2 = Int32.ofNat n := by
  rw [Int32.ofNat_add]
  exact Int32.add_sub_cancel _ _
theorem lw_ex {n a : Nat} (hn : n ≤ 1024) (ha : a ≤ 1026) (h : n ≤ a + 1) : Int32.ofNat n - 2 < Int32.ofNat a := by
  have h9 : (Int32.ofNat a).toInt = (a : Int) := nI_toInt (by omega)
  rcases n with _ | _ | n
  · rw [Int32.lt_iff_toInt_lt, h9]
    have : (Int32.ofNat 0 - 2).toInt = -2 := by decide
    omega
  · rw [Int32.lt_iff_toInt_lt, h9]
    have : (Int32.ofNat (0 + 1) - 2).toInt = -1 := by decide
    omega
  · rw [lw_dn]
    exact nI_lt (by omega) (by omega)
theorem lw_go {n a : Nat} (hn : n ≤ 1024) (h : ¬ Int32.ofNat n - 2 < Int32.ofNat a) (ha : a ≤ 1026) : a + 2 ≤ n := by
  by_cases h2 : n ≤ a + 1
  · exact absurd (lw_ex hn ha h2) h
  · omega
theorem lw_inb {n a : Nat} (hn : n ≤ 1024) (h : a < n) : am_inb (Int32.ofNat a) n = true := by
  have h1 := nI_in h (by omega : n < 2 ^ 31)
  have h2 : ¬ Int32.ofNat a < 0 := fun q => h1 (Or.inl q)
  have h3 : Nat.ble n (Int32.ofNat a).toNatClampNeg = false := by
    cases hb : Nat.ble n (Int32.ofNat a).toNatClampNeg with
    | false => rfl
    | true => exact absurd (Or.inr (Nat.le_of_ble_eq_true hb)) h1
  simp [am_inb, h2, h3]
theorem lw_ch (q : Int32) : 0 ≤ (q.toUInt32 % 65536).toInt32 ∧ (q.toUInt32 % 65536).toInt32 ≤ 65535 := by
  have h : (q.toUInt32 % 65536).toNat < 65536 := by
    rw [UInt32.toNat_mod]
    exact Nat.mod_lt _ (by decide)
  have h2 : (q.toUInt32 % 65536).toInt32 = Int32.ofNat (q.toUInt32 % 65536).toNat := by
    generalize q.toUInt32 % 65536 = z at *
    apply Int32.toBitVec_inj.mp
    simp
  rw [h2]
  refine ⟨?_, ?_⟩
  · have := nI_le (a := 0) (b := (q.toUInt32 % 65536).toNat) (Nat.zero_le _) (by omega)
    exact this
  · exact nI_le (a := (q.toUInt32 % 65536).toNat) (b := 65535) (by omega) (by decide)
set_option maxRecDepth 100000 in
set_option maxHeartbeats 4000000 in
theorem law_loop {l : Launch} {E : (Nat → Prop) → State → Prop} {D : va_G} {ou : Nat → Nat} {ca : Nat → ClassId} {p : Program} {e : Env} {st : State} {md : MethodId} {args : Array Value} {below : List Frame} {meth : Method} {cd : Code} {A : Nat → Prop} {n : Nat} {f : Nat → Int32} {Q : State → Prop} {Iv : lw_Iv} (hE : hg_E E ou) (hX : hx_E E) (hNo : hn_E E) (hl : ∀ e : Env, l.admits e → e.platform.stackTraces = false) (X : am_X p st md args cd code "HoleTemplatesLaw" ((Cond.initialized "HoleTemplatesLaw") :: gw_all) D hn_cl (hg_tys ca) A 7 ca 5) (hEs : E A st) (hT : va_T .int (ou 74) n (fun j => .int (f j)) A st st.heap) (hn : n ≤ 1024) (hok : lw_ok Iv)
    (hend : ∀ (ad : Nat → Nat) (L : List (Option am_V)) (w : List am_C) (k j : Nat), k ≤ 601024 → j ≤ 7293034 → am_W p l e room_1 st md args below meth cd Q D hn_cl A ou ca 7 ad (497, L, [.inl 1], w, k, j)) :
    ∀ (d a : Nat), n ≤ a + d → a ≤ n + 1 → ∀ (r : qt6) (t : qt6) (m : qt2) (y : qt0) (x : qt5) (c : qt1) (u : qt6) (s : hs) (g : Nat → Int32) (j5 j6 : Option am_V) (k j : Nat), Iv r t m y x c u s → k ≤ 50 + a → j ≤ 9031 + 3 * a → ∀ ad : Nat → Nat, am_W p l e room_1 st md args below meth cd Q D hn_cl A ou ca 7 ad (23, [some (.inr (.inr 75)), some (.inr (.inl 0)), some (.inr (.inl 27)), some (.inr (.inl 49)), some (.inl (Int32.ofNat a)), j5, j6], [], (lw9 r t m y x c u s g), k, j) := by
  have Y0 := tkLaw0 (l := l) (e := e) (below := below) (meth := meth) hE hX hNo hl X hEs hT
  have Y1 := tkLaw1 (l := l) (e := e) (below := below) (meth := meth) hE hX hNo hl X hEs hT
  have Y2 := tkLaw2 (l := l) (e := e) (below := below) (meth := meth) hE hX hNo hl X hEs hT
  obtain ⟨o_type, o_wipe, o_add, o_clear, o_compile, o_accepts, o_fault, o_hole, o_item, o_forget, o_write, o_written, o_letter⟩ := hok
  intro d
  induction d with
  | zero =>
    intro a hd ha r t m y x c u s g j5 j6 k j hI hk hj ad
    exact am_sg_ok (ad0 := ad) X Y0 rfl (sl_end (lw_ex hn (by omega) (by omega))) (fun ad1 _ => hend ad1 _ _ _ _ (by omega) (by omega)) ad (fun _ _ => rfl)
  | succ d ih =>
    intro a hd ha r t m y x c u s g j5 j6 k j hI hk hj ad
    by_cases hi : Int32.ofNat n - 2 < Int32.ofNat a
    · exact am_sg_ok (ad0 := ad) X Y0 rfl (sl_end hi) (fun ad1 _ => hend ad1 _ _ _ _ (by omega) (by omega)) ad (fun _ _ => rfl)
    have h2 := lw_go hn hi (by omega)
    have hb0 := lw_inb hn (a := a) (by omega)
    have hb1 : am_inb (Int32.ofNat a + 1) n = true := by
      have := lw_inb hn (a := a + 1) (by omega)
      rw [Int32.ofNat_add] at this
      exact this
    have lw_nx : Int32.ofNat a + 2 = Int32.ofNat (a + 2) := (Int32.ofNat_add a 2).symm
    have hk0 : k ≤ 601024 := by omega
    have hj0 : j ≤ 7293034 := by omega
    have hk1 : k + 1 ≤ 601024 := by omega
    have hj1 : j + 6 ≤ 7293034 := by omega
    by_cases hx0 : f (Int32.ofNat a).toNatClampNeg &&& 15 = 0
    · obtain ⟨hp, hq, he, hv⟩ := o_type r t m y x c u s hI _ (lw_ch (f (Int32.ofNat a + 1).toNatClampNeg)).1 (lw_ch _).2
      refine am_sg_ok (ad0 := ad) X Y0 rfl (sl_type r t m y x c u s g hi hb0 hb1 hx0 hp hq he hk0 hj0) (fun ad1 _ => ?_) ad (fun _ _ => rfl)
      rw [lw_nx]
      exact ih (a + 2) (by omega) (by omega) _ _ _ _ _ _ _ _ _ _ _ _ _ hv (by omega) (by omega) ad1
    by_cases hx1 : f (Int32.ofNat a).toNatClampNeg &&& 15 = 1
    · obtain ⟨hp, hq, he, hv⟩ := o_wipe r t m y x c u s hI
      refine am_sg_ok (ad0 := ad) X Y0 rfl (sl_wipe r t m y x c u s g hi hb0 hx1 hp hq he hk0 hj0) (fun ad1 _ => ?_) ad (fun _ _ => rfl)
      rw [lw_nx]
      exact ih (a + 2) (by omega) (by omega) _ _ _ _ _ _ _ _ _ _ _ _ _ hv (by omega) (by omega) ad1
    by_cases hx2 : f (Int32.ofNat a).toNatClampNeg &&& 15 = 2
    · rcases o_add r t m y x c u s hI with ⟨hp, hq, hz, he, hw, hv⟩ | ⟨hp, hq, hz, he, hv⟩
      · refine am_sg_ok (ad0 := ad) X Y0 rfl (sl_add r t m y x c u s g hi hb0 hx2 hp hq hz he hk0 hj0) (fun ad1 _ => ?_) ad (fun _ _ => rfl)
        refine am_o_lcm (b := 6) X (by decide) (kdLaw_ok (175, .laload, 1) (List.mem_of_getElem? (i := 68) rfl)) (kdLaw_ok (176, .iload 6, 2) (List.mem_of_getElem? (i := 69) rfl)) (kdLaw_ok (178, .i2l, 1) (List.mem_of_getElem? (i := 70) rfl)) (kdLaw_ok (179, .lcmp, 1) (List.mem_of_getElem? (i := 71) rfl)) rfl rfl rfl hw ?_
        refine am_sg_ok (ad0 := ad1) X Y0 rfl sm_add (fun ad2 _ => ?_) ad1 (fun _ _ => rfl)
        rw [lw_nx]
        exact ih (a + 2) (by omega) (by omega) _ _ _ _ _ _ _ _ _ _ _ _ _ hv (by omega) (by omega) ad2
      · refine am_sg_ok (ad0 := ad) X Y1 rfl (sl_add_21 r t m y x c u s g hi hb0 hx2 hp hq hz he hk1 hj1) (fun ad1 _ => ?_) ad (fun _ _ => rfl)
        rw [lw_nx]
        exact ih (a + 2) (by omega) (by omega) _ _ _ _ _ _ _ _ _ _ _ _ _ hv (by omega) (by omega) ad1
    by_cases hx3 : f (Int32.ofNat a).toNatClampNeg &&& 15 = 3
    · obtain ⟨hp, hq, he, hv⟩ := o_clear r t m y x c u s hI
      refine am_sg_ok (ad0 := ad) X Y0 rfl (sl_clear r t m y x c u s g hi hb0 hx3 hp hq he hk0 hj0) (fun ad1 _ => ?_) ad (fun _ _ => rfl)
      rw [lw_nx]
      exact ih (a + 2) (by omega) (by omega) _ _ _ _ _ _ _ _ _ _ _ _ _ hv (by omega) (by omega) ad1
    by_cases hx4 : f (Int32.ofNat a).toNatClampNeg &&& 15 = 4
    · rcases o_compile r t m y x c u s hI with ⟨hp, hq, hz, he, hw, hv⟩ | ⟨hp, hq, hz, he, hv⟩
      · refine am_sg_ok (ad0 := ad) X Y0 rfl (sl_compile r t m y x c u s g hi hb0 hx4 hp hq hz he hk0 hj0) (fun ad1 _ => ?_) ad (fun _ _ => rfl)
        refine am_o_lcm (b := 6) X (by decide) (kdLaw_ok (232, .laload, 1) (List.mem_of_getElem? (i := 100) rfl)) (kdLaw_ok (233, .iload 6, 2) (List.mem_of_getElem? (i := 101) rfl)) (kdLaw_ok (235, .i2l, 1) (List.mem_of_getElem? (i := 102) rfl)) (kdLaw_ok (236, .lcmp, 1) (List.mem_of_getElem? (i := 103) rfl)) rfl rfl rfl hw ?_
        refine am_sg_ok (ad0 := ad1) X Y0 rfl sm_compile (fun ad2 _ => ?_) ad1 (fun _ _ => rfl)
        rw [lw_nx]
        exact ih (a + 2) (by omega) (by omega) _ _ _ _ _ _ _ _ _ _ _ _ _ hv (by omega) (by omega) ad2
      · refine am_sg_ok (ad0 := ad) X Y1 rfl (sl_compile_14 r t m y x c u s g hi hb0 hx4 hp hq hz he hk1 hj1) (fun ad1 _ => ?_) ad (fun _ _ => rfl)
        rw [lw_nx]
        exact ih (a + 2) (by omega) (by omega) _ _ _ _ _ _ _ _ _ _ _ _ _ hv (by omega) (by omega) ad1
    by_cases hx5 : f (Int32.ofNat a).toNatClampNeg &&& 15 = 5
    · obtain ⟨hp, hq, he, hv⟩ := o_accepts r t m y x c u s hI
      refine am_sg_ok (ad0 := ad) X Y0 rfl (sl_accepts r t m y x c u s g hi hb0 hx5 hp hq he hk0 hj0) (fun ad1 _ => ?_) ad (fun _ _ => rfl)
      rw [lw_nx]
      exact ih (a + 2) (by omega) (by omega) _ _ _ _ _ _ _ _ _ _ _ _ _ hv (by omega) (by omega) ad1
    by_cases hx6 : f (Int32.ofNat a).toNatClampNeg &&& 15 = 6
    · obtain ⟨hp, hq, he, hv⟩ := o_fault r t m y x c u s hI
      refine am_sg_ok (ad0 := ad) X Y0 rfl (sl_fault r t m y x c u s g hi hb0 hx6 hp hq he hk0 hj0) (fun ad1 _ => ?_) ad (fun _ _ => rfl)
      rw [lw_nx]
      exact ih (a + 2) (by omega) (by omega) _ _ _ _ _ _ _ _ _ _ _ _ _ hv (by omega) (by omega) ad1
    by_cases hx7 : f (Int32.ofNat a).toNatClampNeg &&& 15 = 7
    · obtain ⟨hp, hq, he, hv⟩ := o_hole r t m y x c u s hI (f (Int32.ofNat a + 1).toNatClampNeg)
      refine am_sg_ok (ad0 := ad) X Y0 rfl (sl_hole r t m y x c u s g hi hb0 hb1 hx7 hp hq he hk0 hj0) (fun ad1 _ => ?_) ad (fun _ _ => rfl)
      rw [lw_nx]
      exact ih (a + 2) (by omega) (by omega) _ _ _ _ _ _ _ _ _ _ _ _ _ hv (by omega) (by omega) ad1
    by_cases hx8 : f (Int32.ofNat a).toNatClampNeg &&& 15 = 8
    · rcases o_item r t m y x c u s hI (f (Int32.ofNat a + 1).toNatClampNeg) with ⟨hp, hq, hz, he, hw, hv⟩ | ⟨hp, hq, hz, he, hv⟩ | ⟨hp, hq, hz, he, hv⟩
      · refine am_sg_ok (ad0 := ad) X Y0 rfl (sl_item r t m y x c u s g hi hb0 hb1 hx8 hp hq hz he hk0 hj0) (fun ad1 _ => ?_) ad (fun _ _ => rfl)
        refine am_o_lcm (b := 6) X (by decide) (kdLaw_ok (339, .laload, 1) (List.mem_of_getElem? (i := 166) rfl)) (kdLaw_ok (340, .iload 6, 2) (List.mem_of_getElem? (i := 167) rfl)) (kdLaw_ok (342, .i2l, 1) (List.mem_of_getElem? (i := 168) rfl)) (kdLaw_ok (343, .lcmp, 1) (List.mem_of_getElem? (i := 169) rfl)) rfl rfl rfl hw ?_
        refine am_sg_ok (ad0 := ad1) X Y0 rfl sm_item (fun ad2 _ => ?_) ad1 (fun _ _ => rfl)
        rw [lw_nx]
        exact ih (a + 2) (by omega) (by omega) _ _ _ _ _ _ _ _ _ _ _ _ _ hv (by omega) (by omega) ad2
      · refine am_sg_ok (ad0 := ad) X Y1 rfl (sl_item_11 r t m y x c u s g hi hb0 hb1 hx8 hp hq hz he hk1 hj1) (fun ad1 _ => ?_) ad (fun _ _ => rfl)
        rw [lw_nx]
        exact ih (a + 2) (by omega) (by omega) _ _ _ _ _ _ _ _ _ _ _ _ _ hv (by omega) (by omega) ad1
      · refine am_sg_ok (ad0 := ad) X Y2 rfl (sl_item_36 r t m y x c u s g hi hb0 hb1 hx8 hp hq hz he hk1 hj1) (fun ad1 _ => ?_) ad (fun _ _ => rfl)
        rw [lw_nx]
        exact ih (a + 2) (by omega) (by omega) _ _ _ _ _ _ _ _ _ _ _ _ _ hv (by omega) (by omega) ad1
    by_cases hx9 : f (Int32.ofNat a).toNatClampNeg &&& 15 = 9
    · rcases o_forget r t m y x c u s hI (f (Int32.ofNat a + 1).toNatClampNeg) with ⟨hp, hq, hz, he, hw, hv⟩ | ⟨hp, hq, hz, he, hv⟩
      · refine am_sg_ok (ad0 := ad) X Y0 rfl (sl_forget r t m y x c u s g hi hb0 hb1 hx9 hp hq hz he hk0 hj0) (fun ad1 _ => ?_) ad (fun _ _ => rfl)
        refine am_o_lcm (b := 6) X (by decide) (kdLaw_ok (395, .laload, 1) (List.mem_of_getElem? (i := 201) rfl)) (kdLaw_ok (396, .iload 6, 2) (List.mem_of_getElem? (i := 202) rfl)) (kdLaw_ok (398, .i2l, 1) (List.mem_of_getElem? (i := 203) rfl)) (kdLaw_ok (399, .lcmp, 1) (List.mem_of_getElem? (i := 204) rfl)) rfl rfl rfl hw ?_
        refine am_sg_ok (ad0 := ad1) X Y0 rfl sm_forget (fun ad2 _ => ?_) ad1 (fun _ _ => rfl)
        rw [lw_nx]
        exact ih (a + 2) (by omega) (by omega) _ _ _ _ _ _ _ _ _ _ _ _ _ hv (by omega) (by omega) ad2
      · refine am_sg_ok (ad0 := ad) X Y1 rfl (sl_forget_11 r t m y x c u s g hi hb0 hb1 hx9 hp hq hz he hk1 hj1) (fun ad1 _ => ?_) ad (fun _ _ => rfl)
        rw [lw_nx]
        exact ih (a + 2) (by omega) (by omega) _ _ _ _ _ _ _ _ _ _ _ _ _ hv (by omega) (by omega) ad1
    by_cases hx10 : f (Int32.ofNat a).toNatClampNeg &&& 15 = 10
    · rcases o_write r t m y x c u s hI with ⟨hp, hq, hz, he, hw, hv⟩ | ⟨hp, hq, hz, he, hv⟩ | ⟨hp, hq, hz, he, hv⟩
      · refine am_sg_ok (ad0 := ad) X Y0 rfl (sl_write r t m y x c u s g hi hb0 hx10 hp hq hz he hk0 hj0) (fun ad1 _ => ?_) ad (fun _ _ => rfl)
        refine am_o_lcm (b := 6) X (by decide) (kdLaw_ok (439, .laload, 1) (List.mem_of_getElem? (i := 226) rfl)) (kdLaw_ok (440, .iload 6, 2) (List.mem_of_getElem? (i := 227) rfl)) (kdLaw_ok (442, .i2l, 1) (List.mem_of_getElem? (i := 228) rfl)) (kdLaw_ok (443, .lcmp, 1) (List.mem_of_getElem? (i := 229) rfl)) rfl rfl rfl hw ?_
        refine am_sg_ok (ad0 := ad1) X Y0 rfl sm_write (fun ad2 _ => ?_) ad1 (fun _ _ => rfl)
        rw [lw_nx]
        exact ih (a + 2) (by omega) (by omega) _ _ _ _ _ _ _ _ _ _ _ _ _ hv (by omega) (by omega) ad2
      · refine am_sg_ok (ad0 := ad) X Y1 rfl (sl_write_10 r t m y x c u s g hi hb0 hx10 hp hq hz he hk1 hj1) (fun ad1 _ => ?_) ad (fun _ _ => rfl)
        rw [lw_nx]
        exact ih (a + 2) (by omega) (by omega) _ _ _ _ _ _ _ _ _ _ _ _ _ hv (by omega) (by omega) ad1
      · refine am_sg_ok (ad0 := ad) X Y2 rfl (sl_write_41 r t m y x c u s g hi hb0 hx10 hp hq hz he hk1 hj1) (fun ad1 _ => ?_) ad (fun _ _ => rfl)
        rw [lw_nx]
        exact ih (a + 2) (by omega) (by omega) _ _ _ _ _ _ _ _ _ _ _ _ _ hv (by omega) (by omega) ad1
    by_cases hx11 : f (Int32.ofNat a).toNatClampNeg &&& 15 = 11
    · obtain ⟨hp, hq, he, hv⟩ := o_written r t m y x c u s hI
      refine am_sg_ok (ad0 := ad) X Y0 rfl (sl_written r t m y x c u s g hi hb0 hx11 hp hq he hk0 hj0) (fun ad1 _ => ?_) ad (fun _ _ => rfl)
      rw [lw_nx]
      exact ih (a + 2) (by omega) (by omega) _ _ _ _ _ _ _ _ _ _ _ _ _ hv (by omega) (by omega) ad1
    by_cases hx12 : f (Int32.ofNat a).toNatClampNeg &&& 15 = 12
    · obtain ⟨hp, hq, he, hv⟩ := o_letter r t m y x c u s hI (f (Int32.ofNat a + 1).toNatClampNeg)
      refine am_sg_ok (ad0 := ad) X Y0 rfl (sl_letter r t m y x c u s g hi hb0 hb1 hx12 hp hq he hk0 hj0) (fun ad1 _ => ?_) ad (fun _ _ => rfl)
      rw [lw_nx]
      exact ih (a + 2) (by omega) (by omega) _ _ _ _ _ _ _ _ _ _ _ _ _ hv (by omega) (by omega) ad1
    refine am_sg_ok (ad0 := ad) X Y0 rfl (sl_none hi hb0 (fun q hq => ?_)) (fun ad1 _ => ?_) ad (fun _ _ => rfl)
    · match q, hq with
      | 0, _ => exact hx0
      | 1, _ => exact hx1
      | 2, _ => exact hx2
      | 3, _ => exact hx3
      | 4, _ => exact hx4
      | 5, _ => exact hx5
      | 6, _ => exact hx6
      | 7, _ => exact hx7
      | 8, _ => exact hx8
      | 9, _ => exact hx9
      | 10, _ => exact hx10
      | 11, _ => exact hx11
      | 12, _ => exact hx12
      | q + 13, h => exact absurd h (by omega)
    · rw [lw_nx]
      exact ih (a + 2) (by omega) (by omega) _ _ _ _ _ _ _ _ _ _ _ _ _ hI (by omega) (by omega) ad1
