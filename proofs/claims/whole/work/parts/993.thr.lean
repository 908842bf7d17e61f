/-! from the new of an exception to its throw -/
section HTW
variable {p : Program} {l : Launch} {e : Env} {R : Room} {s : State} {m : MethodId} {args : Array Value} {below : List Frame} {meth : Method} {c : Code} {Q : State → Prop} {cc : ByteArray} {H : Heap} {locs : List Loc} {cells slots pc ix kx ic q : Nat} {ls : Array Slot} {own cls tx : String} {names : List String}
theorem ht_W (hexec : p.tables.exec = Jvm.exec) (hb : c.code = cc) (htr : e.platform.stackTraces = false) (hlocks : meth.locks = false) (hsz : ls.size = c.maxLocals) (hown : s.vm.findClass own = some m.cls) (hwords : ∀ a ∈ Bundle.ownAtoms own ic cls names, a.before args s = true) (hcls : Bundle.fit cls = true) (hnames : ∀ n ∈ names, Bundle.fit n = true) (hclink : (Cond.classLink own ix cls).before args s = true) (hins : (Cond.instantiable cls 6).before args s = true) (hini : (Cond.initialized cls).before args s = true) (hstr : vk_R own kx tx q s) (hd0 : decode cc pc = .ok (.new ix, 3)) (hd3 : decode cc (pc + 3) = .ok (.dup, 1)) (hd4 : decode cc (pc + 4) = .ok (.ldc kx, 2)) (hd6 : decode cc (pc + 6) = .ok (.invokespecial ic, 3)) (hd9 : decode cc (pc + 9) = .ok (.athrow, 1)) (hnoh : ∀ x ∈ c.exceptionTable.toList, covers x (pc + 9) = false)
    (hlocs : ∀ x ∈ locs, ∀ cell, s.heap[x.base]? = some cell → cell.vm.isStatics = false) (hH : s.heap.size ≤ H.size) (hcells : cells + 1 ≤ R.cells) (hslots : slots + 6 ≤ R.slots) (hfr : names.length + 3 < R.frames) (hlo : 1 + (13 * (names.length + 1) + 42) ≤ R.locals)
    (kk : ∀ (U : State) (ce : Cell), Ended U below (.threw H.size) → U.status = .running → s.WarmedH U.vm → s.sameButNew ({ U with vm := s.vm } : State) locs (cells + 1) (slots + 6) → U.heap[H.size]? = some ce → Bundle.OwnCell args s cls H.size (.ref q) ce → Q U) : W p l e R s m args below meth c H locs cells slots Q (F0 m pc ls []) := by
  refine W.newc hexec hb hown hclink hins hini rfl hd0 hcells hslots fun cC kC h1 h2 h3 h4 => ?_
  refine lv_dup hexec hb hd3 rfl ?_
  refine va_ldcS hexec hb hown hstr hd4 ?_
  intro T hT X
  obtain ⟨U, st, run, ended, hW, same, ce, hce, hoc⟩ := X.ctorThrowS hexec htr hown hcls hnames hwords hlocs h1 h2 (a := H.size) (by rw [hT]; exact Array.getElem?_push_size) hH (msg := .ref q) rfl (g := F0 m (pc + 6) ls [.ref q, .ref H.size, .ref H.size]) rfl hsz rfl rfl (rest := []) rfl (by rw [hb]; exact hd6) (by rw [hb]; exact hd9) hnoh hfr (by show 2 * 0 + (1 + 0) + (13 * (names.length + 1) + 42) ≤ R.locals; omega) hlocks
  exact ⟨U, st, kk U ce ended run hW same hce hoc⟩
end HTW
