/-! calls: a method's contract as the interpreter has it, and the three kinds of call over it -/
/-- a method: its name, code, locals, answer's type, the class that it stands in, the frames and the locals' words that it needs, its exception table -/
abbrev bi_M : Type := MethodName × ByteArray × Nat × Option FieldType × String × Nat × Nat × List (Nat × Nat × Nat × Nat)
def bi_cw (q : bi_M) : Cond := if q.2.2.2.2.2.2.2 = [] then .code q.1 q.2.1 q.2.2.1 q.2.2.2.1 else .codeWith q.1 q.2.1 q.2.2.1 q.2.2.2.1 q.2.2.2.2.2.2.2
theorem bi_cw0 {q : bi_M} (h : q.2.2.2.2.2.2.2 = []) : bi_cw q = .code q.1 q.2.1 q.2.2.1 q.2.2.2.1 := if_pos h
theorem bi_cw1 {q : bi_M} (h : ¬ q.2.2.2.2.2.2.2 = []) : bi_cw q = .codeWith q.1 q.2.1 q.2.2.1 q.2.2.2.1 q.2.2.2.2.2.2.2 := if_neg h
theorem bi_cwok (q : bi_M) : bi_ok (bi_cw q) = true := by
  unfold bi_cw
  split <;> rfl
def bi_rm (q : bi_M) (h h' : bi_H) : Room := { frames := q.2.2.2.2.2.1, cells := bi_nc h' - bi_nc h, slots := bi_ns h' - bi_ns h, locals := q.2.2.2.2.2.2.1 }
def bi_Pc (D : va_G) (B0 : Nat) (Hb : Heap) (as : List bi_V) (h : bi_H) : Array Value → State → Prop := va_Pc (as.map bi_tv) (fun U => bi_rp D B0 Hb h U U.heap)
def bi_Qc (D : va_G) (B0 : Nat) (Hb : Heap) (v : Option bi_V) (h' : bi_H) : Array Value → State → Outcome → State → Prop := fun _ _ o t => o = .returned (v.map bi_tv) ∧ bi_rp D B0 Hb h' t t.heap
/-- called with as over h the method answers v, and the heap is h' -/
def bi_Ct (l : Launch) (D : va_G) (B0 : Nat) (Hb : Heap) (q : bi_M) (as : List bi_V) (h : bi_H) (v : Option bi_V) (h' : bi_H) : Prop :=
  bi_nc h ≤ bi_nc h' ∧ bi_ns h ≤ bi_ns h' ∧ Met l q.1 [bi_cw q] (bi_rm q h h') (bi_Pc D B0 Hb as h) (bi_Qc D B0 Hb v h') (bi_nc h' - bi_nc h) (bi_ns h' - bi_ns h) (fun x => B0 ≤ x)
theorem bi_rp.to {D : va_G} {B0 : Nat} {Hb : Heap} {h : bi_H} {u U : State} {H : Heap} (hvm : u.vm.Alike U.vm) (hwd : bi_wd B0 Hb U) (hr : bi_rp D B0 Hb h u H) : bi_rp D B0 Hb h U H := by
  obtain ⟨h1, h2, h3, h4, h5, h6⟩ := hr
  exact ⟨h1, va_K.moved hvm h2, hwd, h4, h5, fun a => ⟨(h6 a).1, (h6 a).2.moved hvm⟩⟩
theorem bi_blind {D : va_G} {B0 : Nat} {Hb : Heap} {as : List bi_V} {h : bi_H} : FrameBlind (bi_Pc D B0 Hb as h) := by
  intro a U g mk q
  exact ⟨q.1, bi_rp.moved (s := U) (U := U.calling g mk a) (State.WarmedH.refl U) q.2⟩
/-- what a call wants of the tables: the callee's code and name, its arguments' number, room -/
def bi_okb (R : Room) (q : bi_M) (n : Nat) : Prop := bi_cw q ∈ lw_tbl ∧ Cond.initialized q.1.cls ∈ lw_tbl ∧ (q.1.cls ≠ "java/lang/invoke/MethodHandle" ∧ q.1.cls ≠ "java/lang/invoke/VarHandle") ∧ (parseMethodDescriptor q.1.desc).map (fun d => d.parameters.length) = some n ∧ q.2.2.2.2.2.1 + 1 ≤ R.frames ∧ 8 + (q.2.2.1 + 11) + q.2.2.2.2.2.2.1 ≤ R.locals
/-- the callee of a call -/
def bi_okc (M : Nat → Option bi_M) (own : String) (R : Room) (i : Instr) (r : bi_R) : Prop := match i with
  | .invokestatic k => ∃ q, M r.1 = some q ∧ r.2.1 ≤ q.2.2.1 ∧ bi_okb R q r.2.1 ∧ Cond.methodLink own k q.1 ∈ lw_tbl ∧ Cond.static q.1 ∈ lw_tbl
  | .invokevirtual k => ∃ q cq, M r.1 = some q ∧ r.2.1 + 1 ≤ q.2.2.1 ∧ q.2.2.2.2.2.2.2 = [] ∧ bi_okb R q r.2.1 ∧ vwCl[r.2.2.1]? = some cq ∧ Cond.methodLink own k q.1 ∈ lw_tbl ∧ Cond.instanceMethod q.1 ∈ lw_tbl ∧ Cond.selects cq.1 q.1 q.1 ∈ lw_tbl
  | .invokespecial k => if r.1 = 9999 then Cond.methodLink own k objectInit ∈ lw_tbl ∧ Cond.instanceMethod objectInit ∈ lw_tbl ∧ Cond.code objectInit ⟨#[0xb1]⟩ 1 none ∈ lw_tbl ∧ 1 ≤ R.frames ∧ 20 ≤ R.locals
    else ∃ q cq, M r.1 = some q ∧ r.2.1 + 1 ≤ q.2.2.1 ∧ q.2.2.2.2.2.2.2 = [] ∧ bi_okb R q r.2.1 ∧ vwCl[r.2.2.1]? = some cq ∧ q.1.name = "<init>" ∧ q.2.2.2.1 = none ∧ Cond.instanceMethod q.1 ∈ lw_tbl ∧ (Cond.methodLink own k q.1 ∈ lw_tbl ∨ ∃ host, Cond.methodLinkNest own k q.1 host ∈ lw_tbl)
  | _ => True
section BC
variable {p : Program} {l : Launch} {e : Env} {R : Room} {s : State} {m : MethodId} {args : Array Value} {below : List Frame} {meth : Method} {cd : Code} {Q : State → Prop} {D : va_G} {B0 : Nat} {Hb : Heap} {nL n0 m0 : Nat} {cc : ByteArray} {pc : Nat} {own : String} {L L' : bi_L} {st st' : List bi_V} {h h' : bi_H} {ini : Bool} {r : bi_R} {cf : Nat → List bi_V → bi_H → Option (Option bi_V × bi_H)} {M : Nat → Option bi_M}
/-- behind a call -/
theorem bi_after {H : Heap} {locs : List Loc} {cells slots mc ms : Nat} {ls : Array Slot} {st0 rest : List Value} {v : Option bi_V} {a : Array Value} (hr : bi_rp D B0 Hb h s H) (hlc : ∀ q ∈ locs, B0 ≤ q.base) (hrun : va_Run p l e R s m args below meth cd H locs cells slots mc ms (F0 m pc ls st0) rest (bi_Qc D B0 Hb v h' a) (fun x => B0 ≤ x))
    (kk : ∀ (H' : Heap) (locs' : List Loc), bi_rp D B0 Hb h' s H' → (∀ q ∈ locs', B0 ≤ q.base) → W p l e R s m args below meth cd H' locs' (cells + mc) (slots + ms) Q (F0 m (pc + 3) ls ((v.map bi_tv).toList ++ rest))) : W p l e R s m args below meth cd H locs cells slots Q (F0 m pc ls st0) := by
  intro T hT X
  obtain ⟨v', st₀, t, T', LL, h0, X', hL, e1, e2, ⟨hv, hq⟩, st⟩ := hrun T hT X
  cases hv
  have hal : t.vm.Alike s.vm := by rw [← e2]; exact X'.warmed.alike.symm
  have hrp : bi_rp D B0 Hb h' s T'.heap := by rw [e1]; exact hq.to hal hr.2.2.1
  obtain ⟨t2, a1, b1⟩ := kk T'.heap (locs ++ LL) hrp (fun q hq => (List.mem_append.mp hq).elim (hlc q) (hL q)) T' rfl X'
  exact ⟨t2, st t2 a1, b1⟩
theorem bi_wcode {H : Heap} (hr : bi_rp D B0 Hb h s H) {q : bi_M} (hc : bi_cw q ∈ lw_tbl) : ∀ w ∈ [bi_cw q], ∀ (a' : Array Value) (U : State), s.WarmedH U.vm → w.before a' U = true := by
  intro w hw a' U hW
  rw [List.mem_singleton.mp hw]
  exact bi_wd1 hW (bi_cwok q) (hr.2.2.1.1 _ hc (bi_cwok q)) a'
theorem bi_callB {H : Heap} {n k : Nat} (hr : bi_rp D B0 Hb h s H) {q : bi_M} (h0 : q.2.2.2.2.2.2.2 = []) (hk : bi_okb R q n) (hl : Cond.methodLink own k q.1 ∈ lw_tbl) : CallB R s args own k q.1 q.2.1 q.2.2.1 q.2.2.2.1 [bi_cw q] (bi_rm q h h') (bi_nc h' - bi_nc h) (bi_ns h' - bi_ns h) n := by
  obtain ⟨o1, o2, o3, o4, o5, o6⟩ := hk
  refine ⟨rfl, rfl, o5, o6, bi_wcode hr o1, by rw [bi_cw0 h0]; exact List.mem_singleton.mpr rfl, by rw [← bi_cw0 h0]; exact bi_hts hr o1 (bi_cwok q), bi_hts hr o2 rfl, o3, fun sig hsig => ?_, bi_hts hr hl rfl⟩
  rw [hsig] at o4
  exact (Option.some.inj o4).symm
theorem bi_callN {H : Heap} {n k : Nat} {host : String} (hr : bi_rp D B0 Hb h s H) {q : bi_M} (h0 : q.2.2.2.2.2.2.2 = []) (hk : bi_okb R q n) (hl : Cond.methodLinkNest own k q.1 host ∈ lw_tbl) : va_CN R s args own k q.1 host q.2.1 q.2.2.1 q.2.2.2.1 [bi_cw q] (bi_rm q h h') (bi_nc h' - bi_nc h) (bi_ns h' - bi_ns h) n := by
  obtain ⟨o1, o2, o3, o4, o5, o6⟩ := hk
  refine ⟨⟨rfl, rfl, o5, o6, bi_wcode hr o1, by rw [bi_cw0 h0]; exact List.mem_singleton.mpr rfl⟩, by rw [← bi_cw0 h0]; exact bi_hts hr o1 (bi_cwok q), bi_hts hr o2 rfl, o3, fun sig hsig => ?_, bi_hts hr hl rfl⟩
  rw [hsig] at o4
  exact (Option.some.inj o4).symm
theorem bi_callW {H : Heap} {n k : Nat} (hr : bi_rp D B0 Hb h s H) {q : bi_M} (h0 : ¬ q.2.2.2.2.2.2.2 = []) (hk : bi_okb R q n) (hl : Cond.methodLink own k q.1 ∈ lw_tbl) (hst : Cond.static q.1 ∈ lw_tbl) : vx_CSW R s args own k q.1 q.2.1 q.2.2.1 q.2.2.2.1 q.2.2.2.2.2.2.2 [bi_cw q] (bi_rm q h h') (bi_nc h' - bi_nc h) (bi_ns h' - bi_ns h) n := by
  obtain ⟨o1, o2, o3, o4, o5, o6⟩ := hk
  refine ⟨⟨rfl, rfl, o5, o6, bi_wcode hr o1, by rw [bi_cw1 h0]; exact List.mem_singleton.mpr rfl⟩, by rw [← bi_cw1 h0]; exact bi_hts hr o1 (bi_cwok q), bi_hts hr o2 rfl, o3, fun sig hsig => ?_, bi_hts hr hl rfl, bi_hts hr hst rfl⟩
  rw [hsig] at o4
  exact (Option.some.inj o4).symm
theorem bi_sumr (st : List bi_V) : ((st.map bi_tv).map fun v => v.category).sum = bi_sum st := by
  unfold bi_sum
  rw [List.map_map]
  congr 1
  apply List.map_congr_left
  intro v _
  exact bi_cat v
theorem bi_room {st : List bi_V} {ls : Array Slot} {st0 : List Value} (h8 : bi_sum st ≤ 8) : 2 * (F0 m pc ls st0).monitorRoom + ((st.map bi_tv).map fun v => v.category).sum ≤ 8 := lv_room (by rw [bi_sumr]; exact h8)
theorem bi_w1 : ∀ (st : List bi_V), bi_sum st = st.length → ∀ x ∈ st, bi_w x = 1
  | [], _, x, hx => by cases hx
  | v :: st, hs, x, hx => by
    have hle : ∀ (q : List bi_V), q.length ≤ bi_sum q := by
      intro q
      induction q with
      | nil => exact Nat.le_refl _
      | cons a q ih =>
        have h1 : 1 ≤ bi_w a := by rcases a with _ | _ | _ <;> simp [bi_w]
        show q.length + 1 ≤ (bi_w a :: q.map bi_w).sum
        rw [List.sum_cons]
        have : (q.map bi_w).sum = bi_sum q := rfl
        omega
    have h1 : 1 ≤ bi_w v := by rcases v with _ | _ | _ <;> simp [bi_w]
    have h2 : bi_sum (v :: st) = bi_w v + bi_sum st := by unfold bi_sum; rw [List.map_cons, List.sum_cons]
    have h3 := hle st
    rw [h2, List.length_cons] at hs
    rcases List.mem_cons.mp hx with rfl | hx
    · omega
    · exact bi_w1 st (by omega) x hx
theorem bi_tolist (v : Option bi_V) (rest : List bi_V) : (v.toList ++ rest).map bi_tv = (v.map bi_tv).toList ++ rest.map bi_tv := by cases v <;> rfl
/-- what the calls of a step come to -/
def bi_cfok (l : Launch) (D : va_G) (B0 : Nat) (Hb : Heap) (M : Nat → Option bi_M) (cf : Nat → List bi_V → bi_H → Option (Option bi_V × bi_H)) : Prop :=
  ∀ (mi : Nat) (as : List bi_V) (h : bi_H) (v : Option bi_V) (h' : bi_H), cf mi as h = some (v, h') → (∀ x ∈ as, bi_w x = 1) → ∀ q, M mi = some q → as.length ≤ q.2.2.1 → bi_Ct l D B0 Hb q as h v h'
theorem bi_s_static {k : Nat} (hx : p.tables.exec = Jvm.exec) (hb : cd.code = cc) (hml : cd.maxLocals = nL) (hown : s.vm.findClass own = some m.cls) (hcf : bi_cfok l D B0 Hb M cf) (hok : bi_okc M own R (.invokestatic k) r) (hdg : decode cc pc = .ok (.invokestatic k, 3)) (he : bi_x cf (.invokestatic k) r L st h = some (L', st', h')) (hRc : bi_nc h' ≤ n0 + R.cells) (hRs : bi_ns h' ≤ m0 + R.slots) (kk : bi_At p l e R s m args below meth cd Q D B0 Hb nL n0 m0 (pc + 3) L' st' h') : bi_At p l e R s m args below meth cd Q D B0 Hb nL n0 m0 pc L st h := by
  intro H locs ls cells slots hr hl hw hlc hc hs
  obtain ⟨q, hM, hqn, hkb, hlk, hstat⟩ := hok
  have he : bi_calls cf r.1 r.2.1 L st h = some (L', st', h') := he
  unfold bi_calls at he
  split at he
  · rename_i hn
    obtain ⟨hn1, hn2, hn3⟩ := hn
    unfold bi_ret at he
    split at he
    · rename_i v h1 hcall
      cases he
      have hlen : (st.take r.2.1).length = r.2.1 := by rw [List.length_take]; omega
      have hw1 := bi_w1 (st.take r.2.1) (by rw [hlen]; exact hn3)
      obtain ⟨g1, g2, hMet⟩ := hcf r.1 _ h v h' hcall (fun x hx => hw1 x (List.mem_reverse.mp hx)) q hM (by rw [List.length_reverse, hlen]; exact hqn)
      have hpre : PreS s H (bi_Pc D B0 Hb (st.take r.2.1).reverse h) ((st.take r.2.1).reverse.map bi_tv) := ⟨bi_blind, fun U hU hW => ⟨rfl, by show bi_rp D B0 Hb h U U.heap; rw [hU]; exact hr.moved hW⟩⟩
      have hstk : st.map bi_tv = ((st.take r.2.1).reverse.map bi_tv).reverse ++ (st.drop r.2.1).map bi_tv := by
        rw [← List.map_reverse, List.reverse_reverse, ← List.map_append, List.take_append_drop]
      have hrun : va_Run p l e R s m args below meth cd H locs cells slots (bi_nc h' - bi_nc h) (bi_ns h' - bi_ns h) (F0 m pc ls (st.map bi_tv)) ((st.drop r.2.1).map bi_tv) (bi_Qc D B0 Hb v h' ((st.take r.2.1).reverse.map bi_tv).toArray) (fun x => B0 ≤ x) := by
        by_cases h0 : q.2.2.2.2.2.2.2 = []
        · exact va_runS (H := H) (g := F0 m pc ls (st.map bi_tv)) (As := (st.take r.2.1).reverse.map bi_tv) (rest := (st.drop r.2.1).map bi_tv) (Ts := []) ⟨hx, hb, hml, hown, fun w hw => by cases hw⟩ hMet ⟨bi_callB hr h0 hkb hlk, bi_hts hr hstat rfl⟩ hpre rfl (by rw [List.length_map, List.length_reverse, hlen]) hl.1 hstk (bi_room hn2) hdg ⟨by omega, by omega⟩
        · exact vx_runSW (H := H) (g := F0 m pc ls (st.map bi_tv)) (As := (st.take r.2.1).reverse.map bi_tv) (rest := (st.drop r.2.1).map bi_tv) (Ts := []) ⟨hx, hb, hml, hown, fun w hw => by cases hw⟩ hMet (bi_callW hr h0 hkb hlk hstat) hpre rfl (by rw [List.length_map, List.length_reverse, hlen]) hl.1 hstk (bi_room hn2) hdg ⟨by omega, by omega⟩
      refine bi_after hr hlc hrun (fun H' locs' hr' hlc' => ?_)
      rw [← bi_tolist]
      exact kk H' locs' ls _ _ hr' hl hw hlc' (by omega) (by omega)
    · cases he
  · cases he
end BC
