/-! the interpreter's straight instructions, of the machine -/
def bi_lq (q : Nat × bi_V) : Nat × Value := (q.1, bi_tv q.2)
/-- the machine at a place of a method, its locals, its stack and its heap as the interpreter has them, comes to Q -/
def bi_At (p : Program) (l : Launch) (e : Env) (R : Room) (s : State) (m : MethodId) (args : Array Value) (below : List Frame) (meth : Method) (cd : Code) (Q : State → Prop) (D : va_G) (B0 : Nat) (Hb : Heap) (nL n0 m0 : Nat) (pc : Nat) (L : bi_L) (st : List bi_V) (h : bi_H) : Prop :=
  ∀ (H : Heap) (locs : List Loc) (ls : Array Slot) (cells slots : Nat), bi_rp D B0 Hb h s H → lv_has ls nL (L.map bi_lq) → (∀ q ∈ L, bi_w q.2 = 1) → (∀ q ∈ locs, B0 ≤ q.base) → n0 + cells = bi_nc h → m0 + slots = bi_ns h → W p l e R s m args below meth cd H locs cells slots Q (F0 m pc ls (st.map bi_tv))
theorem bi_cat (v : bi_V) : (bi_tv v).category = bi_w v := by
  rcases v with x | a | x
  · rfl
  · cases a <;> rfl
  · rfl
theorem bi_lk {L : bi_L} {i : Nat} {v : bi_V} (h : L.lookup i = some v) : (i, v) ∈ L := by
  induction L with
  | nil => cases h
  | cons q L ih =>
    obtain ⟨k, w⟩ := q
    rw [List.lookup_cons] at h
    by_cases e : (i == k) = true
    · rw [e] at h
      cases h
      have e : i = k := by simpa using e
      subst e
      exact List.mem_cons_self
    · have e' : (i == k) = false := by simpa using e
      rw [e'] at h
      exact List.mem_cons_of_mem _ (ih h)
theorem bi_lka {L : bi_L} {i nL : Nat} {v : bi_V} {ls : Array Slot} (h : L.lookup i = some v) (hl : lv_has ls nL (L.map bi_lq)) : ls[i]? = some (.val (bi_tv v)) := hl.2.2 (i, bi_tv v) (List.mem_map.mpr ⟨(i, v), bi_lk h, rfl⟩)
theorem bi_stl {L : bi_L} {i nL : Nat} {v : bi_V} {ls : Array Slot} (hw : ∀ q ∈ L, bi_w q.2 = 1) (hl : lv_has ls nL ((i, bi_tv v) :: (L.map bi_lq).filter (fun q => !(q.1 == i) && !(q.1 + 1 == i && q.2.category == 2)))) : lv_has ls nL ((bi_st L i v).map bi_lq) := by
  refine ⟨hl.1, hl.2.1, fun q hq => hl.2.2 q ?_⟩
  obtain ⟨x, hx, rfl⟩ := List.mem_map.mp hq
  rcases List.mem_cons.mp hx with rfl | hx
  · exact List.mem_cons_self
  · obtain ⟨h1, h2⟩ := List.mem_filter.mp hx
    refine List.mem_cons_of_mem _ (List.mem_filter.mpr ⟨List.mem_map.mpr ⟨x, h1, rfl⟩, ?_⟩)
    have h3 : (bi_lq x).2.category = 1 := by rw [show (bi_lq x).2 = bi_tv x.2 from rfl, bi_cat, hw x h1]
    have h4 : (bi_lq x).1 = x.1 := rfl
    simp only [h3, h4]
    simpa using h2
theorem bi_stw {L : bi_L} {i : Nat} {v : bi_V} (hw : ∀ q ∈ L, bi_w q.2 = 1) (hv : bi_w v = 1) : ∀ q ∈ bi_st L i v, bi_w q.2 = 1 := by
  intro q hq
  rcases List.mem_cons.mp hq with rfl | hq
  · exact hv
  · exact hw q (List.mem_filter.mp hq).1
/-- an instruction's length -/
def bi_len (i : Instr) : Nat := match i with
  | .iload _ | .aload _ | .istore _ | .astore _ | .bipush _ | .ldc _ | .newarray _ => 2
  | .sipush _ | .ldc_w _ | .iinc _ _ | .getfield _ | .putfield _ | .anewarray _ | .new _ | .invokestatic _ | .invokevirtual _ | .invokespecial _ => 3
  | .multianewarray _ _ => 4
  | _ => 1
/-- what must hold of an instruction, its pool entry and the method that it stands in -/
def bi_oki (own : String) (nL : Nat) (ini : Bool) (i : Instr) (r : bi_R) : Prop := match i with
  | .bipush n => (Int8.ofInt n).toInt32 = Int32.ofInt n
  | .sipush n => (Int16.ofInt n).toInt32 = Int32.ofInt n
  | .ldc k => Cond.constant own k (Int32.ofNat r.1) ∈ lw_tbl
  | .ldc_w k => Cond.constant own k (Int32.ofNat r.1) ∈ lw_tbl
  | .istore_n k => k.val < nL
  | .istore k => k < nL
  | .astore_n k => k.val < nL
  | .astore k => k < nL
  | .iinc k _ => k < nL
  | .getfield k => ∃ q, vwCl[r.1]? = some q ∧ r.2.1 < q.2.2 ∧ bi_fl own k q r.2.1 ∧ r.2.2.1 = bi_ft r.1 r.2.1
  | .putfield k => ∃ q, vwCl[r.1]? = some q ∧ r.2.1 < q.2.2 ∧ bi_fl own k q r.2.1 ∧ r.2.2.1 = bi_ft r.1 r.2.1 ∧ ((q.2.1 r.2.1).2.2.2 = false ∨ ((q.2.1 r.2.1).1 = own ∧ ini = true ∧ Cond.fieldLink own k (q.2.1 r.2.1).1 (q.2.1 r.2.1).2.1 (q.2.1 r.2.1).2.2.1 ∈ lw_tbl))
  | .newarray t => Cond.arrayClass (newarray.typeOf t) ∈ lw_tbl
  | .anewarray k => ∃ q, vwCl[r.1]? = some q ∧ Cond.classLink own k q.1 ∈ lw_tbl ∧ Cond.arrayOver (.object q.1) ∈ lw_tbl
  | .new k => ∃ q, vwCl[r.1]? = some q ∧ r.2.1 = q.2.2 ∧ Cond.classLink own k q.1 ∈ lw_tbl ∧ Cond.instantiable q.1 q.2.2 ∈ lw_tbl ∧ Cond.initialized q.1 ∈ lw_tbl
  | .multianewarray k d => d = 2 ∧ Cond.classLink own k "[[I" ∈ lw_tbl ∧ Cond.arrayOver (.array .int) ∈ lw_tbl ∧ Cond.arrayClass .int ∈ lw_tbl
  | _ => True
section BX
variable {p : Program} {l : Launch} {e : Env} {R : Room} {s : State} {m : MethodId} {args : Array Value} {below : List Frame} {meth : Method} {cd : Code} {Q : State → Prop} {D : va_G} {B0 : Nat} {Hb : Heap} {nL n0 m0 : Nat} {cc : ByteArray} {pc : Nat} {own : String} {L L' : bi_L} {st st' : List bi_V} {h h' : bi_H} {ini : Bool} {r : bi_R} {cf : Nat → List bi_V → bi_H → Option (Option bi_V × bi_H)}
theorem bi_s_ldi {k : Nat} {i : Instr} (hx : p.tables.exec = Jvm.exec) (hb : cd.code = cc) (hi : (∃ n : Fin 4, i = .iload_n n ∧ n.val = k) ∨ i = .iload k) (hdg : decode cc pc = .ok (i, bi_len i)) (he : bi_ldi L k st h = some (L', st', h')) (kk : bi_At p l e R s m args below meth cd Q D B0 Hb nL n0 m0 (pc + bi_len i) L' st' h') : bi_At p l e R s m args below meth cd Q D B0 Hb nL n0 m0 pc L st h := by
  intro H locs ls cells slots hr hl hw hlc hc hs
  unfold bi_ldi at he
  split at he
  · rename_i x hx0
    cases he
    have h1 := bi_lka hx0 hl
    rcases hi with ⟨n, rfl, rfl⟩ | rfl
    · exact lv_iload_n hx hb hdg rfl h1 (kk H locs ls cells slots hr hl hw hlc hc hs)
    · exact lv_iload hx hb hdg h1 (kk H locs ls cells slots hr hl hw hlc hc hs)
  · cases he
theorem bi_s_lda {k : Nat} {i : Instr} (hx : p.tables.exec = Jvm.exec) (hb : cd.code = cc) (hi : (∃ n : Fin 4, i = .aload_n n ∧ n.val = k) ∨ i = .aload k) (hdg : decode cc pc = .ok (i, bi_len i)) (he : bi_lda L k st h = some (L', st', h')) (kk : bi_At p l e R s m args below meth cd Q D B0 Hb nL n0 m0 (pc + bi_len i) L' st' h') : bi_At p l e R s m args below meth cd Q D B0 Hb nL n0 m0 pc L st h := by
  intro H locs ls cells slots hr hl hw hlc hc hs
  unfold bi_lda at he
  split at he
  · rename_i a hx0
    cases he
    have h1 := bi_lka hx0 hl
    have k1 := kk H locs ls cells slots hr hl hw hlc hc hs
    cases a with
    | zero =>
      rcases hi with ⟨n, rfl, rfl⟩ | rfl
      · exact lv_aload_nN hx hb hdg rfl h1 k1
      · exact lv_aloadN hx hb hdg h1 k1
    | succ a =>
      rcases hi with ⟨n, rfl, rfl⟩ | rfl
      · exact lv_aload_n hx hb hdg rfl h1 k1
      · exact lv_aload hx hb hdg h1 k1
  · cases he
theorem bi_s_sti {k : Nat} {i : Instr} (hx : p.tables.exec = Jvm.exec) (hb : cd.code = cc) (hi : (∃ n : Fin 4, i = .istore_n n ∧ n.val = k) ∨ i = .istore k) (hk : k < nL) (hdg : decode cc pc = .ok (i, bi_len i)) (he : bi_sti L k st h = some (L', st', h')) (kk : bi_At p l e R s m args below meth cd Q D B0 Hb nL n0 m0 (pc + bi_len i) L' st' h') : bi_At p l e R s m args below meth cd Q D B0 Hb nL n0 m0 pc L st h := by
  intro H locs ls cells slots hr hl hw hlc hc hs
  unfold bi_sti at he
  split at he
  · rename_i x st0
    cases he
    have k1 : ∀ ls' : Array Slot, lv_has ls' nL ((k, Value.int x) :: (L.map bi_lq).filter (fun q => !(q.1 == k) && !(q.1 + 1 == k && q.2.category == 2))) → W p l e R s m args below meth cd H locs cells slots Q (F0 m (pc + bi_len i) ls' (st'.map bi_tv)) := fun ls' h9 => kk H locs ls' cells slots hr (bi_stl (v := .inl x) hw h9) (bi_stw hw rfl) hlc hc hs
    rcases hi with ⟨n, rfl, rfl⟩ | rfl
    · exact lv_istore_n hx hb hdg rfl hl hk rfl k1
    · exact lv_istore hx hb hdg hl hk rfl k1
  · cases he
theorem bi_s_sta {k : Nat} {i : Instr} (hx : p.tables.exec = Jvm.exec) (hb : cd.code = cc) (hi : (∃ n : Fin 4, i = .astore_n n ∧ n.val = k) ∨ i = .astore k) (hk : k < nL) (hdg : decode cc pc = .ok (i, bi_len i)) (he : bi_sta L k st h = some (L', st', h')) (kk : bi_At p l e R s m args below meth cd Q D B0 Hb nL n0 m0 (pc + bi_len i) L' st' h') : bi_At p l e R s m args below meth cd Q D B0 Hb nL n0 m0 pc L st h := by
  intro H locs ls cells slots hr hl hw hlc hc hs
  unfold bi_sta at he
  split at he
  · rename_i a st0
    cases he
    have k1 : ∀ ls' : Array Slot, lv_has ls' nL ((k, bi_tr a) :: (L.map bi_lq).filter (fun q => !(q.1 == k) && !(q.1 + 1 == k && q.2.category == 2))) → W p l e R s m args below meth cd H locs cells slots Q (F0 m (pc + bi_len i) ls' (st'.map bi_tv)) := fun ls' h9 => kk H locs ls' cells slots hr (bi_stl (v := .inr (.inl a)) hw h9) (bi_stw hw rfl) hlc hc hs
    cases a with
    | zero =>
      rcases hi with ⟨n, rfl, rfl⟩ | rfl
      · exact lv_astore_nN hx hb hdg rfl hl hk rfl k1
      · exact lv_astoreN hx hb hdg hl hk rfl k1
    | succ a =>
      rcases hi with ⟨n, rfl, rfl⟩ | rfl
      · exact lv_astore_n hx hb hdg rfl hl hk rfl k1
      · exact lv_astore hx hb hdg hl hk rfl k1
  · cases he
end BX
