/-! throws out of a method, with the size of the heap behind them (after the kit's vx_throwS, vx_throwSW), and what a method that throws is -/
section BT
variable {p : Program} {l : Launch} {e : Env} {R : Room} {s : State} {m : MethodId} {args : Array Value} {below : List Frame} {meth : Method} {c : Code} {H : Heap} {locs : List Loc} {cells slots : Nat} {Q : State → Prop}
variable {mc ms : Nat} {free : Addr → Prop} {A0 A1 : Nat → Prop} {H0 : Heap} {a : Array Value} {ls : Array Slot} {st0 rest : List Value}
variable {Qc : Array Value → State → Outcome → State → Prop} {XC : String → State → State → Prop}
/-- 'throw new E("text")': new; dup; ldc; invokespecial; athrow -/
theorem bi_throwS {cc : ByteArray} {pc : Nat} (hexec : p.tables.exec = Jvm.exec) (hb : c.code = cc) (hl : l.stackTraces = false) {own cls text : String} {names : List String} {ik is ic mc ms sa : Nat} {A : Nat → Prop}
    (hown : s.vm.findClass own = some m.cls) (hcls : Bundle.fit cls = true) (hnames : ∀ n ∈ names, Bundle.fit n = true)
    (hk : (Cond.classLink own ik cls).before args s = true) (hini : (Cond.initialized cls).before args s = true) (hstr : vk_R own is text sa s) (hat : ∀ w ∈ vx_atS own ic cls names, w.before args s = true)
    (hgood : ∀ w ∈ Cond.classLink own ik cls :: Cond.initialized cls :: vx_atS own ic cls names, vx_ot w = true)
    (hU : vx_Zq Bundle.tN "UNASSIGNED_STACK" Bundle.steD A s s.heap) (hN : vx_Zq Bundle.tN "SUPPRESSED_SENTINEL" Bundle.listD A s s.heap) (hS : va_S A s.heap H locs) (hsize : ls.size = c.maxLocals)
    (d0 : decode cc pc = .ok (.new ik, 3)) (d3 : decode cc (pc + 3) = .ok (.dup, 1)) (d4 : decode cc (pc + 4) = .ok (.ldc is, 2)) (d6 : decode cc (pc + 6) = .ok (.invokespecial ic, 3)) (d9 : decode cc (pc + 9) = .ok (.athrow, 1))
    (hout : ∀ x ∈ c.exceptionTable.toList, covers x (pc + 9) = false)
    (hRframes : names.length + 3 < R.frames) (hRlocals : (rest.map fun v => v.category).sum + (13 * (names.length + 1) + 43) ≤ R.locals) (hRcells : cells + 1 ≤ R.cells) (hRslots : slots + 6 ≤ R.slots) (hlocks : meth.locks = false)
    (hx : ∀ t : State, s.WarmedH t.vm → t.heap.size = H.size + 1 → (∀ q : Nat, q < H.size → t.heap[q]? = H[q]?) → XC cls s t)
    (hf : ∀ z ∈ locs, free z.base) (hc : cells + 1 ≤ mc) (hs : slots + 6 ≤ ms) :
    W p l e R s m args below meth c H locs cells slots (vx_MQ below Qc XC args s mc ms free) (F0 m pc ls rest) := by
  intro T hT X
  have htr : e.platform.stackTraces = false := (show e.platform.stackTraces = l.stackTraces by rw [X.admits.platform]).trans hl
  have Y := vx_rebase X (R' := { frames := R.frames, locals := R.locals, cells := 1, slots := 6 }) (Nat.le_refl _) (Nat.le_refl _) hRcells hRslots
  obtain ⟨s', hA⟩ : ∃ z, z = (T.setVm s.vm).setFrames (.invoking m args :: below) := ⟨_, rfl⟩
  rw [← hA] at Y
  have hvm : s'.vm = s.vm := by rw [hA]; rfl
  have hhp : s'.heap = H := by rw [hA]; exact hT
  have hW0 : s.WarmedH s'.vm := by rw [hvm]; exact State.WarmedH.refl s
  have hat' : ∀ w ∈ vx_atS own ic cls names, w.before args s' = true := fun w hw => vx_ot_at hW0 hvm.symm (hgood w (List.mem_cons_of_mem _ (List.mem_cons_of_mem _ hw))) (hat w hw)
  have hk' : (Cond.classLink own ik cls).before args s' = true := vx_ot_at hW0 hvm.symm (hgood _ List.mem_cons_self) hk
  have hini' : (Cond.initialized cls).before args s' = true := vx_ot_at hW0 hvm.symm (hgood _ (List.mem_cons_of_mem _ List.mem_cons_self)) hini
  have hU' : vx_Zq Bundle.tN "UNASSIGNED_STACK" Bundle.steD A s' s'.heap := by rw [hhp]; exact vx_Zq.moved hW0.alike (hU.kept hS.2.1)
  have hN' : vx_Zq Bundle.tN "SUPPRESSED_SENTINEL" Bundle.listD A s' s'.heap := by rw [hhp]; exact vx_Zq.moved hW0.alike (hN.kept hS.2.1)
  have h : ∀ w ∈ Bundle.ownAtoms own ic cls names, w.before args s' = true := vx_own hat' (vx_isRefq hU'.1) (vx_isRefq hN'.1) hU'.2.word hN'.2.word
  have hown' : s'.vm.findClass own = some m.cls := by rw [hvm]; exact hown
  have hins : (Cond.instantiable cls 6).before args s' = true := h _ (by simp [Bundle.ownAtoms])
  obtain ⟨vm₁, cX, kX, hfX, hkX, -, -, X₁, st1⟩ := Y.newCold hexec (own := own) (C := cls) (index := ik) (n := 6) hown' hk' hins hini'
    (g := F0 m pc ls rest) rfl (by rw [hb]; exact d0) (Nat.le_refl _) (Nat.le_refl _)
  generalize hT1 : (T.setVm vm₁).pushCell { cls := cX, slots := kX.instanceTypes.map defaultValue, vm := .none } = T1 at X₁ st1
  have hcat : (Value.ref T.heap.size).category = 1 := rfl
  have hcellA : T1.heap[T.heap.size]? = some (freshCell cX kX) := by rw [← hT1]; exact State.heap_pushCell_size _ _
  have d3' : decode c.code (pc + 3) = .ok (.dup, 1) := by rw [hb]; exact d3
  have d4' : decode c.code (pc + 4) = .ok (.ldc is, 2) := by rw [hb]; exact d4
  have hstr' : vk_R own is text sa s' := vk_R.warm hW0 hstr
  obtain ⟨U, hsteps, hrun, hend, hW, hsame, ce, hce, hO⟩ := X₁.ctorThrowS hexec htr (own := own) (cls := cls) (names := names) (ic := ic) hown' hcls hnames h (fun x hx => nomatch hx) hfX hkX hcellA (by rw [hhp, hT]; exact Nat.le_refl _) (msg := .ref sa) rfl
    (g := { method := m, pc := pc + 6, locals := ls, stack := .ref sa :: .ref T.heap.size :: .ref T.heap.size :: rest, locked := none }) rfl hsize rfl rfl (rest := rest) rfl
    (by rw [hb]; exact d6) (by rw [hb]; exact d9) hout hRframes (by simp only [List.map_cons, List.sum_cons, hcat]; omega) hlocks
  obtain ⟨f1, f2⟩ := vx_frame hsame
  rw [hhp] at f1 f2
  have hWs : s.WarmedH U.vm := State.WarmedH.trans hW0 hW
  have hsz9 : U.heap.size = H.size + 1 := by
    have g1 := hsame.2.2.1
    rw [hhp] at g1
    have g2 : U.heap.size ≤ H.size + 1 := g1
    have g3 : T.heap.size < U.heap.size := (Array.getElem?_eq_some_iff.mp hce).1
    rw [hT] at g3
    omega
  have hcl : s.vm.findClass cls = some ce.cls := by
    have h9 := hO.cls
    rw [hvm] at h9
    exact h9
  have hall : s.sameButNew ({ U with vm := s.vm } : State) locs mc ms := by
    subst hA
    obtain ⟨e1, e2⟩ := hsame
    rw [State.setFrames_setFrames] at e1
    have h2 : (T.setVm s.vm).sameButNew ({ U with vm := s.vm } : State) [] (0 + 1) (0 + 6) := ⟨e1, e2⟩
    have h3 := X.same.trans h2
    rw [List.append_nil] at h3
    exact h3.mono hc hs
  refine ⟨U, ?_, .threw T.heap.size, hrun, hend, Or.inr ⟨T.heap.size, rfl, cls, ce, locs, hx U hWs hsz9 (fun q hq => f2 q hq (fun z hz => nomatch hz)), hce, hO.vm, hcl, hWs, hall, hf⟩⟩
  refine st1 _ ?_
  show Steps p.tables e below (T1.setTop { method := m, pc := pc + 3, locals := ls, stack := .ref T.heap.size :: rest, locked := none }) _
  jvm_step X₁.here [X₁.here.top, hexec, d3', Value.category]
  exact X₁.ldcString hexec (own := own) (text := text) (index := is) (a := sa) hown' hstr'.1 hstr'.2
    (g := { method := m, pc := pc + 4, locals := ls, stack := .ref T.heap.size :: .ref T.heap.size :: rest, locked := none }) rfl d4' _ hsteps
/-- 'throw new E("text")', the text by a wide index -/
theorem bi_throwSW {cc : ByteArray} {pc : Nat} (hexec : p.tables.exec = Jvm.exec) (hb : c.code = cc) (hl : l.stackTraces = false) {own cls text : String} {names : List String} {ik is ic mc ms sa : Nat} {A : Nat → Prop}
    (hown : s.vm.findClass own = some m.cls) (hcls : Bundle.fit cls = true) (hnames : ∀ n ∈ names, Bundle.fit n = true)
    (hk : (Cond.classLink own ik cls).before args s = true) (hini : (Cond.initialized cls).before args s = true) (hstr : vk_R own is text sa s) (hat : ∀ w ∈ vx_atS own ic cls names, w.before args s = true)
    (hgood : ∀ w ∈ Cond.classLink own ik cls :: Cond.initialized cls :: vx_atS own ic cls names, vx_ot w = true)
    (hU : vx_Zq Bundle.tN "UNASSIGNED_STACK" Bundle.steD A s s.heap) (hN : vx_Zq Bundle.tN "SUPPRESSED_SENTINEL" Bundle.listD A s s.heap) (hS : va_S A s.heap H locs) (hsize : ls.size = c.maxLocals)
    (d0 : decode cc pc = .ok (.new ik, 3)) (d3 : decode cc (pc + 3) = .ok (.dup, 1)) (d4 : decode cc (pc + 4) = .ok (.ldc_w is, 3)) (d7 : decode cc (pc + 7) = .ok (.invokespecial ic, 3)) (d10 : decode cc (pc + 10) = .ok (.athrow, 1))
    (hout : ∀ x ∈ c.exceptionTable.toList, covers x (pc + 10) = false)
    (hRframes : names.length + 3 < R.frames) (hRlocals : (rest.map fun v => v.category).sum + (13 * (names.length + 1) + 43) ≤ R.locals) (hRcells : cells + 1 ≤ R.cells) (hRslots : slots + 6 ≤ R.slots) (hlocks : meth.locks = false)
    (hx : ∀ t : State, s.WarmedH t.vm → t.heap.size = H.size + 1 → (∀ q : Nat, q < H.size → t.heap[q]? = H[q]?) → XC cls s t)
    (hf : ∀ z ∈ locs, free z.base) (hc : cells + 1 ≤ mc) (hs : slots + 6 ≤ ms) :
    W p l e R s m args below meth c H locs cells slots (vx_MQ below Qc XC args s mc ms free) (F0 m pc ls rest) := by
  intro T hT X
  have htr : e.platform.stackTraces = false := (show e.platform.stackTraces = l.stackTraces by rw [X.admits.platform]).trans hl
  have Y := vx_rebase X (R' := { frames := R.frames, locals := R.locals, cells := 1, slots := 6 }) (Nat.le_refl _) (Nat.le_refl _) hRcells hRslots
  obtain ⟨s', hA⟩ : ∃ z, z = (T.setVm s.vm).setFrames (.invoking m args :: below) := ⟨_, rfl⟩
  rw [← hA] at Y
  have hvm : s'.vm = s.vm := by rw [hA]; rfl
  have hhp : s'.heap = H := by rw [hA]; exact hT
  have hW0 : s.WarmedH s'.vm := by rw [hvm]; exact State.WarmedH.refl s
  have hat' : ∀ w ∈ vx_atS own ic cls names, w.before args s' = true := fun w hw => vx_ot_at hW0 hvm.symm (hgood w (List.mem_cons_of_mem _ (List.mem_cons_of_mem _ hw))) (hat w hw)
  have hk' : (Cond.classLink own ik cls).before args s' = true := vx_ot_at hW0 hvm.symm (hgood _ List.mem_cons_self) hk
  have hini' : (Cond.initialized cls).before args s' = true := vx_ot_at hW0 hvm.symm (hgood _ (List.mem_cons_of_mem _ List.mem_cons_self)) hini
  have hU' : vx_Zq Bundle.tN "UNASSIGNED_STACK" Bundle.steD A s' s'.heap := by rw [hhp]; exact vx_Zq.moved hW0.alike (hU.kept hS.2.1)
  have hN' : vx_Zq Bundle.tN "SUPPRESSED_SENTINEL" Bundle.listD A s' s'.heap := by rw [hhp]; exact vx_Zq.moved hW0.alike (hN.kept hS.2.1)
  have h : ∀ w ∈ Bundle.ownAtoms own ic cls names, w.before args s' = true := vx_own hat' (vx_isRefq hU'.1) (vx_isRefq hN'.1) hU'.2.word hN'.2.word
  have hown' : s'.vm.findClass own = some m.cls := by rw [hvm]; exact hown
  have hins : (Cond.instantiable cls 6).before args s' = true := h _ (by simp [Bundle.ownAtoms])
  obtain ⟨vm₁, cX, kX, hfX, hkX, -, -, X₁, st1⟩ := Y.newCold hexec (own := own) (C := cls) (index := ik) (n := 6) hown' hk' hins hini'
    (g := F0 m pc ls rest) rfl (by rw [hb]; exact d0) (Nat.le_refl _) (Nat.le_refl _)
  generalize hT1 : (T.setVm vm₁).pushCell { cls := cX, slots := kX.instanceTypes.map defaultValue, vm := .none } = T1 at X₁ st1
  have hcat : (Value.ref T.heap.size).category = 1 := rfl
  have hcellA : T1.heap[T.heap.size]? = some (freshCell cX kX) := by rw [← hT1]; exact State.heap_pushCell_size _ _
  have d3' : decode c.code (pc + 3) = .ok (.dup, 1) := by rw [hb]; exact d3
  have d4' : decode c.code (pc + 4) = .ok (.ldc_w is, 3) := by rw [hb]; exact d4
  have hstr' : vk_R own is text sa s' := vk_R.warm hW0 hstr
  obtain ⟨U, hsteps, hrun, hend, hW, hsame, ce, hce, hO⟩ := X₁.ctorThrowS hexec htr (own := own) (cls := cls) (names := names) (ic := ic) hown' hcls hnames h (fun x hx => nomatch hx) hfX hkX hcellA (by rw [hhp, hT]; exact Nat.le_refl _) (msg := .ref sa) rfl
    (g := { method := m, pc := pc + 7, locals := ls, stack := .ref sa :: .ref T.heap.size :: .ref T.heap.size :: rest, locked := none }) rfl hsize rfl rfl (rest := rest) rfl
    (by rw [hb]; exact d7) (by rw [hb]; exact d10) hout hRframes (by simp only [List.map_cons, List.sum_cons, hcat]; omega) hlocks
  obtain ⟨f1, f2⟩ := vx_frame hsame
  rw [hhp] at f1 f2
  have hWs : s.WarmedH U.vm := State.WarmedH.trans hW0 hW
  have hsz9 : U.heap.size = H.size + 1 := by
    have g1 := hsame.2.2.1
    rw [hhp] at g1
    have g2 : U.heap.size ≤ H.size + 1 := g1
    have g3 : T.heap.size < U.heap.size := (Array.getElem?_eq_some_iff.mp hce).1
    rw [hT] at g3
    omega
  have hcl : s.vm.findClass cls = some ce.cls := by
    have h9 := hO.cls
    rw [hvm] at h9
    exact h9
  have hall : s.sameButNew ({ U with vm := s.vm } : State) locs mc ms := by
    subst hA
    obtain ⟨e1, e2⟩ := hsame
    rw [State.setFrames_setFrames] at e1
    have h2 : (T.setVm s.vm).sameButNew ({ U with vm := s.vm } : State) [] (0 + 1) (0 + 6) := ⟨e1, e2⟩
    have h3 := X.same.trans h2
    rw [List.append_nil] at h3
    exact h3.mono hc hs
  refine ⟨U, ?_, .threw T.heap.size, hrun, hend, Or.inr ⟨T.heap.size, rfl, cls, ce, locs, hx U hWs hsz9 (fun q hq => f2 q hq (fun z hz => nomatch hz)), hce, hO.vm, hcl, hWs, hall, hf⟩⟩
  refine st1 _ ?_
  show Steps p.tables e below (T1.setTop { method := m, pc := pc + 3, locals := ls, stack := .ref T.heap.size :: rest, locked := none }) _
  jvm_step X₁.here [X₁.here.top, hexec, d3', Value.category]
  exact X₁.ldcStringW hexec (own := own) (text := text) (index := is) (a := sa) hown' hstr'.1 hstr'.2
    (g := { method := m, pc := pc + 4, locals := ls, stack := .ref T.heap.size :: .ref T.heap.size :: rest, locked := none }) rfl d4' _ hsteps
end BT
/-- the exceptions by their numbers, and the pool entry of their class and constructor in the class -/
def bi_en (e : Nat) : String := if e = 0 then "java/lang/IndexOutOfBoundsException" else "java/lang/IllegalStateException"
def bi_nms : List String := ["java/lang/RuntimeException", "java/lang/Exception"]
theorem bi_xw0 : ∀ w ∈ vx_atS RX9 243 "java/lang/IndexOutOfBoundsException" bi_nms, w ∈ lw_tbl := by decide +kernel
theorem bi_xw1 : ∀ w ∈ vx_atS RX9 256 "java/lang/IllegalStateException" bi_nms, w ∈ lw_tbl := by decide +kernel
theorem bi_xo0 : ∀ w ∈ vx_atS RX9 243 "java/lang/IndexOutOfBoundsException" bi_nms, bi_ok w = true ∧ vx_ot w = true := by decide +kernel
theorem bi_xo1 : ∀ w ∈ vx_atS RX9 256 "java/lang/IllegalStateException" bi_nms, bi_ok w = true ∧ vx_ot w = true := by decide +kernel
def bi_XC (D : va_G) (B0 : Nat) (Hb : Heap) (e : Nat) (h' : bi_H) : String → State → State → Prop := fun E _ t => E = bi_en e ∧ bi_rp D B0 Hb h' t t.heap
def bi_No : Array Value → State → Outcome → State → Prop := fun _ _ _ _ => False
/-- called with as over h the method throws e, and the heap is h' -/
def bi_Cx (l : Launch) (D : va_G) (B0 : Nat) (Hb : Heap) (q : bi_M) (as : List bi_V) (h : bi_H) (e : Nat) (h' : bi_H) : Prop :=
  bi_nc h ≤ bi_nc h' ∧ bi_ns h ≤ bi_ns h' ∧ vx_Met l q.1 [bi_cw q] (bi_rm q h h') (bi_Pc D B0 Hb as h) bi_No (bi_XC D B0 Hb e h') (bi_nc h' - bi_nc h) (bi_ns h' - bi_ns h) (fun x => B0 ≤ x)
/-- a throw as the code has it -/
def bi_oktx (own : String) (cc : ByteArray) (R : Room) (pc : Nat) (r : bi_R) : Prop := own = RX9 ∧ 6 ≤ R.frames ∧ 90 ≤ R.locals ∧ (∃ tx, (r.2.2.1, tx) ∈ bi_strs) ∧ ((r.1 = 0 ∧ r.2.1 = 239 ∧ r.2.2.2 = 243) ∨ (r.1 = 1 ∧ r.2.1 = 252 ∧ r.2.2.2 = 256)) ∧ decode cc pc = .ok (.new r.2.1, 3) ∧ decode cc (pc + 3) = .ok (.dup, 1) ∧
  ((decode cc (pc + 4) = .ok (.ldc r.2.2.1, 2) ∧ decode cc (pc + 6) = .ok (.invokespecial r.2.2.2, 3) ∧ decode cc (pc + 9) = .ok (.athrow, 1)) ∨ (decode cc (pc + 4) = .ok (.ldc_w r.2.2.1, 3) ∧ decode cc (pc + 7) = .ok (.invokespecial r.2.2.2, 3) ∧ decode cc (pc + 10) = .ok (.athrow, 1)))
theorem bi_xk0 : Cond.classLink RX9 239 "java/lang/IndexOutOfBoundsException" ∈ lw_tbl ∧ Cond.initialized "java/lang/IndexOutOfBoundsException" ∈ lw_tbl := by decide +kernel
theorem bi_xk1 : Cond.classLink RX9 252 "java/lang/IllegalStateException" ∈ lw_tbl ∧ Cond.initialized "java/lang/IllegalStateException" ∈ lw_tbl := by decide +kernel
theorem bi_fits : Bundle.fit "java/lang/IndexOutOfBoundsException" = true ∧ Bundle.fit "java/lang/IllegalStateException" = true ∧ ∀ n ∈ bi_nms, Bundle.fit n = true := by decide +kernel
section BU
variable {p : Program} {l : Launch} {e : Env} {R : Room} {s : State} {m : MethodId} {args : Array Value} {below : List Frame} {meth : Method} {cd : Code} {Q : State → Prop} {D : va_G} {B0 : Nat} {Hb : Heap} {nL n0 m0 : Nat} {cc : ByteArray} {pc : Nat} {own : String} {L L' : bi_L} {st st' : List bi_V} {h h' : bi_H} {r : bi_R} {M : Nat → Option bi_M} {P : bi_P}
/-- the heap with an exception's cell more -/
theorem bi_rp.thrown {H H' : Heap} {U : State} (hr : bi_rp D B0 Hb h s H) (hW : s.WarmedH U.vm) (hz : H'.size = H.size + 1) (ho : ∀ q, q < H.size → H'[q]? = H[q]?) : bi_rp D B0 Hb (bi_new h (0, 0) 6) U H' := by
  have h1 : bi_rp D B0 Hb (bi_new h (0, 0) 6) s H' := hr.born hz ho (bi_cell.none (by rw [bi_new_k hr.1.1]))
  exact h1.moved hW
/-- a method's end by a throw -/
theorem bi_st_throw {x : Nat} (hx : p.tables.exec = Jvm.exec) (hb : cd.code = cc) (hml : cd.maxLocals = nL) (hlt : l.stackTraces = false) (hown : s.vm.findClass own = some m.cls) (hlocks : meth.locks = false) (hte : ∀ z ∈ cd.exceptionTable.toList, False) (hS0 : ∀ q, q < B0 → s.heap[q]? = Hb[q]?) (hsx : s.heap.size + 1 ≤ bi_nx h) (hok : bi_oktx own cc R pc r) (hrx : r.1 = x) (hn0 : n0 ≤ bi_nc h) (hm0 : m0 ≤ bi_ns h) (hRc : bi_nc h + 1 ≤ n0 + R.cells) (hRs : bi_ns h + 6 ≤ m0 + R.slots) (hst : st = []) : bi_At p l e R s m args below meth cd (vx_MQ below bi_No (bi_XC D B0 Hb x (bi_new h (0, 0) 6)) args s (bi_nc h + 1 - n0) (bi_ns h + 6 - m0) (fun x => B0 ≤ x)) D B0 Hb nL n0 m0 pc L st h := by
  intro H locs ls cells slots hr hl hw hlc hc hs
  subst hst
  obtain ⟨rfl, hfr, hlo, ⟨tx, htx⟩, hcase, d0, d3, hd⟩ := hok
  obtain ⟨sa, hsa⟩ := hr.2.2.1.2.1 _ htx
  have hU : vx_Zq Bundle.tN "UNASSIGNED_STACK" Bundle.steD (fun q => B0 ≤ q) s s.heap := hr.2.2.1.2.2.1.kept (fun a h1 h2 => hS0 a (by omega))
  have hN : vx_Zq Bundle.tN "SUPPRESSED_SENTINEL" Bundle.listD (fun q => B0 ≤ q) s s.heap := hr.2.2.1.2.2.2.1.kept (fun a h1 h2 => hS0 a (by omega))
  have hext : ∀ q : Nat, q < B0 → H[q]? = s.heap[q]? := fun q hq => (hr.1.2.2 q hq).trans (hS0 q hq).symm
  have fin : ∀ (cls : String) (ik ic : Nat), cls = bi_en x → Bundle.fit cls = true → Cond.classLink RX9 ik cls ∈ lw_tbl → Cond.initialized cls ∈ lw_tbl → (∀ w ∈ vx_atS RX9 ic cls bi_nms, w ∈ lw_tbl) → (∀ w ∈ vx_atS RX9 ic cls bi_nms, bi_ok w = true ∧ vx_ot w = true) → r.2.1 = ik → r.2.2.2 = ic → W p l e R s m args below meth cd H locs cells slots (vx_MQ below bi_No (bi_XC D B0 Hb x (bi_new h (0, 0) 6)) args s (bi_nc h + 1 - n0) (bi_ns h + 6 - m0) (fun x => B0 ≤ x)) (F0 m pc ls []) := by
    intro cls ik ic hcls hfit hk hini hin hoks hik hic
    subst hik
    subst hic
    have hXC : ∀ t : State, s.WarmedH t.vm → t.heap.size = H.size + 1 → (∀ q : Nat, q < H.size → t.heap[q]? = H[q]?) → bi_XC D B0 Hb x (bi_new h (0, 0) 6) cls s t := fun t hW hz ho => ⟨hcls, hr.thrown hW hz ho⟩
    have hgood : ∀ w ∈ Cond.classLink RX9 r.2.1 cls :: Cond.initialized cls :: vx_atS RX9 r.2.2.2 cls bi_nms, vx_ot w = true := fun w hw => by
      rcases List.mem_cons.mp hw with rfl | hw
      · rfl
      · rcases List.mem_cons.mp hw with rfl | hw
        · rfl
        · exact (hoks w hw).2
    have hat : ∀ w ∈ vx_atS RX9 r.2.2.2 cls bi_nms, w.before args s = true := fun w hw => bi_hts hr (hin w hw) (hoks w hw).1
    have hSS : va_S (fun q => B0 ≤ q) s.heap H locs := ⟨by have := hr.1.1; omega, fun q _ h2 => hext q (by omega), hlc⟩
    rcases hd with ⟨d4, d6, d9⟩ | ⟨d4, d7, d10⟩
    · exact bi_throwS (A := fun q => B0 ≤ q) hx hb hlt hown hfit bi_fits.2.2 (bi_hts hr hk rfl) (bi_hts hr hini rfl) hsa hat hgood hU hN hSS (by rw [hml]; exact hl.1) d0 d3 d4 d6 d9 (fun z hz => (hte z hz).elim) hfr (by simp [bi_nms]; omega) (by omega) (by omega) hlocks hXC hlc (by omega) (by omega)
    · exact bi_throwSW (A := fun q => B0 ≤ q) hx hb hlt hown hfit bi_fits.2.2 (bi_hts hr hk rfl) (bi_hts hr hini rfl) hsa hat hgood hU hN hSS (by rw [hml]; exact hl.1) d0 d3 d4 d7 d10 (fun z hz => (hte z hz).elim) hfr (by simp [bi_nms]; omega) (by omega) (by omega) hlocks hXC hlc (by omega) (by omega)
  subst hrx
  rcases hcase with ⟨h1, h2, h3⟩ | ⟨h1, h2, h3⟩
  · exact fin _ 239 243 (by rw [h1]; rfl) bi_fits.1 bi_xk0.1 bi_xk0.2 bi_xw0 bi_xo0 h2 h3
  · exact fin _ 252 256 (by rw [h1]; rfl) bi_fits.2.1 bi_xk1.1 bi_xk1.2 bi_xw1 bi_xo1 h2 h3
end BU
