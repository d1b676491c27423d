/-! the law's entry: the interpreter's run of the law is the machine's -/
theorem bi_okb_le {R R' : Room} {q : bi_M} {n : Nat} (hf : R.frames ≤ R'.frames) (hl : R.locals ≤ R'.locals) (h : bi_okb R q n) : bi_okb R' q n := ⟨h.1, h.2.1, h.2.2.1, h.2.2.2.1, Nat.le_trans h.2.2.2.2.1 hf, Nat.le_trans h.2.2.2.2.2 hl⟩
theorem bi_okc_le {M : Nat → Option bi_M} {own : String} {R R' : Room} {i : Instr} {r : bi_R} (hf : R.frames ≤ R'.frames) (hl : R.locals ≤ R'.locals) (h : bi_okc M own R i r) : bi_okc M own R' i r := by
  cases i with
  | invokestatic k =>
    obtain ⟨q, h1, h2, h3, h4⟩ := h
    exact ⟨q, h1, h2, bi_okb_le hf hl h3, h4⟩
  | invokevirtual k =>
    obtain ⟨q, cq, h1, h2, h3, h4, h5⟩ := h
    exact ⟨q, cq, h1, h2, h3, bi_okb_le hf hl h4, h5⟩
  | invokespecial k =>
    unfold bi_okc at h ⊢
    dsimp only at h ⊢
    split at h
    · rename_i h9
      rw [if_pos h9]
      exact ⟨h.1, h.2.1, h.2.2.1, Nat.le_trans h.2.2.2.1 hf, Nat.le_trans h.2.2.2.2 hl⟩
    · rename_i h9
      rw [if_neg h9]
      obtain ⟨q, cq, h1, h2, h3, h4, h5⟩ := h
      exact ⟨q, cq, h1, h2, h3, bi_okb_le hf hl h4, h5⟩
  | _ => exact trivial
theorem bi_okr_le {M : Nat → Option bi_M} {own : String} {nL : Nat} {ini : Bool} {R R' : Room} {cc : ByteArray} (hf : R.frames ≤ R'.frames) (hl : R.locals ≤ R'.locals) : ∀ (is : List bi_I) (pc : Nat), bi_okr M own nL ini R cc pc is → bi_okr M own nL ini R' cc pc is
  | [], _, h => h
  | _ :: is, _, h => ⟨h.1, h.2.1, bi_okc_le hf hl h.2.2.1, bi_okr_le hf hl is _ h.2.2.2⟩
/-- the same method with more room -/
def bi_wide (q : bi_M) (f n : Nat) : bi_M := (q.1, q.2.1, q.2.2.1, q.2.2.2.1, q.2.2.2.2.1, f, n, q.2.2.2.2.2.2.2)
theorem bi_okk_le {M : Nat → Option bi_M} {P : bi_P} {mi : Nat} {q : bi_M} {k : bi_K} {f n : Nat} (hf : q.2.2.2.2.2.1 ≤ f) (hl : q.2.2.2.2.2.2.1 ≤ n) (h : bi_okk M P mi q k) : bi_okk M P mi (bi_wide q f n) k := by
  obtain ⟨h1, h2, h3, h4⟩ := h
  refine ⟨bi_okr_le (R := bi_mr q) (R' := bi_mr (bi_wide q f n)) hf hl _ _ h1, h2, fun ha => ?_, fun i hi => ?_⟩
  · obtain ⟨g1, g2, g3, g4⟩ := h3 ha
    exact ⟨g1, Nat.le_trans g2 hf, Nat.le_trans g3 hl, g4⟩
  · obtain ⟨g1, g2⟩ := h4 i hi
    exact ⟨bi_okc_le (R := bi_mr q) (R' := bi_mr (bi_wide q f n)) hf hl g1, g2⟩
/-- the heap at the law's start: the script of L ints at b, sz cells -/
def bi_h0 (b L : Nat) (xs : Nat → Int32) (sz : Nat) : bi_H := ((fun a => if a = b + 1 then (4, L) else (0, 0)), (fun _ _ _ => 0), (fun _ _ _ => 0), (fun a j => if a = b + 1 then xs j else 0), (fun _ _ => 0), sz + 1, 0, 0)
theorem bi_inst : ∀ (c : Nat) (q : vw_C), vwCl[c]? = some q → ∃ n, Cond.instantiable q.1 n ∈ lw_tbl
  | 0, _, h => by cases h; exact ⟨4, by decide +kernel⟩
  | 1, _, h => by cases h; exact ⟨2, by decide +kernel⟩
  | 2, _, h => by cases h; exact ⟨9, by decide +kernel⟩
  | 3, _, h => by cases h; exact ⟨4, by decide +kernel⟩
  | 4, _, h => by cases h; exact ⟨4, by decide +kernel⟩
  | 5, _, h => by cases h; exact ⟨7, by decide +kernel⟩
  | 6, _, h => by cases h; exact ⟨20, by decide +kernel⟩
  | 7, _, h => by cases h; exact ⟨11, by decide +kernel⟩
  | 8, _, h => by cases h; exact ⟨7, by decide +kernel⟩
  | 9, _, h => by cases h; exact ⟨10, by decide +kernel⟩
  | 10, _, h => by cases h; exact ⟨11, by decide +kernel⟩
  | 11, _, h => by cases h; exact ⟨35, by decide +kernel⟩
  | 12, _, h => by cases h; exact ⟨39, by decide +kernel⟩
  | c + 13, _, h => by simp at h
theorem bi_known {s : State} {args : Array Value} (hts : ∀ w ∈ lw_tbl, w.before args s = true) : ∃ D : va_G, va_K D vwCl [] s := by
  have h1 : ∀ c : Nat, ∃ z : ClassId × (Nat → Nat), ∀ q : vw_C, vwCl[c]? = some q → u_Kn s q.1 q.2.1 q.2.2 z.1 z.2 := by
    have some_of : ∀ (c : Nat) (q : vw_C), vwCl[c]? = some q → ∃ z : ClassId × (Nat → Nat), u_Kn s q.1 q.2.1 q.2.2 z.1 z.2 := by
      intro c q hq
      obtain ⟨n, hn⟩ := bi_inst c q hq
      obtain ⟨c0, i0, hk⟩ := u_known hts (bi_cok_of c q hq).1 (hts _ hn)
      exact ⟨(c0, i0), hk⟩
    intro c
    cases hq : vwCl[c]? with
    | none =>
      obtain ⟨z, -⟩ := some_of 0 _ rfl
      exact ⟨z, fun q h => by cases h⟩
    | some q =>
      obtain ⟨z, hz⟩ := some_of c q hq
      exact ⟨z, fun q' h => by cases h; exact hz⟩
  obtain ⟨f, hf⟩ := Classical.skolem.mp h1
  exact ⟨(fun c => (f c).1, fun c => (f c).2), fun c q h => hf c q h, fun k q h => by simp at h⟩
/-- a word of the start, whatever the arguments are -/
theorem bi_wd0 {s : State} {a0 : Array Value} {w : Cond} (hw : bi_ok w = true) (h : w.before a0 s = true) (a : Array Value) : w.before a s = true := by
  have good : (goodWord w || (w.onTables && w.keepsFace)) = true → w.before a s = true := fun hg => by
    simp only [Bool.or_eq_true, Bool.and_eq_true] at hg
    rcases hg with hg | ⟨h1, -⟩
    · exact word_at (State.WarmedH.refl s) (good_of_word hg) h
    · exact va_tabs h1 rfl h
  cases w with
  | fieldLinkNest q1 q2 q3 q4 q5 q6 => exact va_tabs rfl rfl h
  | methodLinkNest q1 q2 q3 q4 => exact va_tabs rfl rfl h
  | arrayOver ty =>
    cases ty with
    | object C => exact va_AO.use (va_AO.of h)
    | array t => exact over_moved (State.WarmedH.refl s).alike h
    | _ => exact good hw
  | _ => exact good hw
theorem bi_strw : ∀ q ∈ bi_strs, Cond.stringRef RX9 q.1 q.2 ∈ lw_tbl := by decide +kernel
theorem bi_strx : ∀ q ∈ bi_strs, Cond.exactly (.string RX9 q.1) "java/lang/String" ∈ flatC (Jvm.Cond.and given_1 narrow_1) := by decide +kernel
theorem bi_swl : Cond.laysStatic Bundle.tN "UNASSIGNED_STACK" Bundle.steD ∈ lw_tbl ∧ Cond.laysStatic Bundle.tN "SUPPRESSED_SENTINEL" Bundle.listD ∈ lw_tbl ∧ Cond.initialized Bundle.tN ∈ lw_tbl := by decide +kernel
theorem bi_swn : Cond.isRef (.static Bundle.tN "UNASSIGNED_STACK" Bundle.steD) ∈ flatC (Jvm.Cond.and given_1 narrow_1) ∧ Cond.isRef (.static Bundle.tN "SUPPRESSED_SENTINEL" Bundle.listD) ∈ flatC (Jvm.Cond.and given_1 narrow_1) ∧ Cond.not (.castable "java/lang/IllegalStateException" "java/lang/IndexOutOfBoundsException") ∈ flatC (Jvm.Cond.and given_1 narrow_1) := by decide +kernel
theorem bi_wds {s : State} {a0 : Array Value} (hts : ∀ w ∈ lw_tbl, w.before a0 s = true) (hg : (Jvm.Cond.and given_1 narrow_1).before a0 s = true) : bi_wd s.heap.size s.heap s := by
  have hs := flat_of_before _ hg
  have hA : ∀ a : Nat, a < s.heap.size → ¬ s.heap.size ≤ a := fun a ha => by omega
  refine ⟨fun w hw ho a => bi_wd0 ho (hts w hw) a, fun q hq => ?_, vx_Zqof (hts _ bi_swl.1) (hts _ bi_swl.2.2) (hs _ bi_swn.1) hA, vx_Zqof (hts _ bi_swl.2.1) (hts _ bi_swl.2.2) (hs _ bi_swn.2.1) hA, va_Nc.of (hs _ bi_swn.2.2)⟩
  obtain ⟨a, -, -, -, h1, -⟩ := Cond.exactly_spec (hs _ (bi_strx q hq))
  exact ⟨a, vk_R.of (hts _ (bi_strw q hq)) h1⟩
theorem bi_rp0 {s : State} {b L : Nat} {xs : Nat → Int32} {D : va_G} (hK : va_K D vwCl [] s) (hW : bi_wd s.heap.size s.heap s) (hX : va_X b L xs s s.heap) (hb : b < s.heap.size) : bi_rp D s.heap.size s.heap (bi_h0 b L xs s.heap.size) s s.heap := by
  have hk : ∀ a, bi_k (bi_h0 b L xs s.heap.size) a = if a = b + 1 then (4, L) else (0, 0) := fun a => rfl
  refine ⟨⟨rfl, Nat.le_refl _, fun q _ => rfl⟩, hK, hW, ?_, fun a ha => ?_, fun a => ?_⟩
  · rw [hk, if_neg (by omega)]
  · rw [hk] at ha ⊢
    by_cases e : a + 1 = b + 1
    · rw [if_pos e]
      exact ⟨by omega, fun h => (h rfl).elim⟩
    · rw [if_neg e] at ha
      exact (ha rfl).elim
  · unfold bi_cell
    rw [hk]
    by_cases e : a + 1 = b + 1
    · rw [if_pos e]
      refine ⟨fun c hc => by simp at hc; omega, fun ty hty => ?_⟩
      have hty : some FieldType.int = some ty := hty
      cases hty
      obtain ⟨scr, x1, x2, x3, x4, x5⟩ := hX
      have e : a = b := by omega
      subst e
      refine ⟨scr, x1, x2, x3, x4, fun j hj => ?_, fun C hC => by cases hC⟩
      rw [x5 j hj]
      show some (Value.int (xs j)) = some (Value.int (bi_ai (bi_h0 a L xs s.heap.size) (a + 1) j))
      have : bi_ai (bi_h0 a L xs s.heap.size) (a + 1) j = xs j := if_pos rfl
      rw [this]
    · rw [if_neg e]
      exact ⟨fun c hc => by simp at hc; omega, fun ty hty => by cases hty⟩
/-! THE CLAIM OUT OF ONE WALK OF THE LAW'S BODY. Your part is whole_start (and what it stands on); all else here is the same for every law, but numbers. -/
def R_law : String := "TwinVaultsLaw"
def lw_P (b : Addr) (xs : List Int32) (args : Array Value) (s : State) : Prop := args = #[.ref b] ∧ s.IntsAt b xs ∧ xs.length ≤ 3075 ∧ (Jvm.Cond.and given_1 narrow_1).before args s = true
def lw_Q (_ : Array Value) (s : State) (o : Outcome) (t : State) : Prop := o = .returned (some (.int 1)) ∧ Framed s o t [] 100000 7000000
def lw_Z (below : List Frame) (a : Array Value) (s : State) : State → Prop := fun t => ∃ o, t.status = .running ∧ Ended t below o ∧ lw_Q a s o t
/-- the law's own end, with 1 on the stack, nothing written that was there before, its room as the claim has it -/
theorem lw_ret {p : Program} {l : Launch} {e : Env} {s : State} {m : MethodId} {below : List Frame} {meth : Method} {c : Code} {b : Nat} (hx : p.tables.exec = Jvm.exec) (hb : c.code = code) (hr : meth.sig.returnType = ret) (hlocks : meth.locks = false) {pc : Nat} {H : Heap} {ls : Array Slot} (hdg : decode code pc = .ok (.ireturn, 1)) : W p l e room_1 s m #[Value.ref b] below meth c H [] 100000 7000000 (lw_Z below #[Value.ref b] s) (F0 m pc ls [.int 1]) := by
  intro T hT X
  obtain ⟨fs, hret, hrun, hended, hW, hframe⟩ := X.leave (v := some (.int 1)) (hlocks := hlocks) (fun h => by rw [hr] at h; cases h)
  have hmeth' : T.vm.method? m = some meth := X.method'
  refine ⟨T.setFrames fs, ?_, .returned (some (.int 1)), hrun, hended, rfl, ⟨_, rfl⟩, hW, hframe⟩
  jvm_step X.here [X.here.top, hx, hb, hdg, hmeth', hr, ret, narrow_b1]
  (try refine ⟨rfl, ?_⟩); (try refine ⟨rfl, ?_⟩)
  first | (intro acts; rw [hret _ acts rfl rfl rfl]) | rw [hret _ _ rfl rfl rfl]
  exact Steps.refl _
/-- what holds at the law's entry: the machine, the code, the tables' words (any of lw_tbl by 'hts w (by decide +kernel)'), the script of L ints xs at the cell b, what the Statement gives of the start (any of its parts by flat_of_before) -/
def lw_At (p : Program) (s : State) (m : MethodId) (meth : Method) (c : Code) (b L : Nat) (xs : Nat → Int32) : Prop :=
  p.tables.exec = Jvm.exec ∧ c.code = code ∧ meth.sig.returnType = ret ∧ c.maxLocals = 7 ∧ s.vm.findClass R_law = some m.cls ∧ (∀ w ∈ lw_tbl, w.before #[Value.ref b] s = true) ∧ va_X b L xs s s.heap ∧ b < s.heap.size ∧ meth.locks = false ∧ (Jvm.Cond.and given_1 narrow_1).before #[Value.ref b] s = true
theorem bi_law_no : ∀ i b k, bt_P 222 b = some k → k.2.2.1.1 ≠ .invokevirtual i := by
  have h : ∀ b, b < bt_L_law.length → (match (bt_L_law.getD b bi_kd).2.2.1.1 with | .invokevirtual _ => false | _ => true) = true := by decide +kernel
  intro i b k hk hi
  have hk : bt_L_law[b]? = some k := hk
  have := bi_allk (C := fun k => (match k.2.2.1.1 with | .invokevirtual _ => false | _ => true) = true) hk h
  rw [hi] at this
  cases this
/-- the law's run: it answers 1, within the room -/
def bi_Runs (N mc ms : Nat) : Prop := ∀ (b L : Nat) (xs : Nat → Int32) (sz : Nat), L ≤ N → b < sz → ∃ n hf, bi_run bt_P n 222 0 [(0, .inr (.inl (b + 1)))] [] (bi_h0 b L xs sz) = some (.inl (some (.inl 1)), hf) ∧ bi_nc hf ≤ mc ∧ bi_ns hf ≤ ms
theorem bi_law_q : ∃ q, bt_M 222 = some q ∧ bi_wide q 10 354 = (yL_law, code, 7, ret, RL, 10, 354, []) ∧ q.2.2.2.2.2.1 ≤ 10 ∧ q.2.2.2.2.2.2.1 ≤ 354 := ⟨_, rfl, rfl, by decide, by decide⟩
theorem bi_law {p : Program} {e : Env} {s : State} {m : MethodId} {below : List Frame} {meth : Method} {c : Code} {l : Launch} (hlt : l.stackTraces = false) {b L : Nat} {xs : Nat → Int32} (C0 : lw_At p s m meth c b L xs) {n : Nat} {hf : bi_H} (hrun : bi_run bt_P n 222 0 [(0, .inr (.inl (b + 1)))] [] (bi_h0 b L xs s.heap.size) = some (.inl (some (.inl 1)), hf)) (hmc : bi_nc hf ≤ 100000) (hms : bi_ns hf ≤ 7000000) : W p l e room_1 s m #[Value.ref b] below meth c s.heap [] 0 0 (lw_Z below #[Value.ref b] s) (entryFrame m ([Value.ref b] : List Value).toArray 7) := by
  obtain ⟨hx, hb, hret, hml, hown, hts, hX, hbl, hlocks, hgv⟩ := C0
  obtain ⟨D, hK⟩ := bi_known hts
  have hr := bi_rp0 hK (bi_wds hts hgv) hX hbl
  obtain ⟨q, hM, hq, hqf, hql⟩ := bi_law_q
  obtain ⟨-, -, m3, m4⟩ := bt_ok 222 q hM
  refine bi_entry (as := [.inr (.inl (b + 1))]) (nL := 7) (D := D) (B0 := s.heap.size) (Hb := s.heap) (h := bi_h0 b L xs s.heap.size) (by simp [bi_w]) (Nat.le_of_ble_eq_true rfl) hr ?_
  have hk : ∀ b k, bt_P 222 b = some k → bi_okk bt_M bt_P 222 (yL_law, code, 7, ret, RL, 10, 354, []) k := fun b k hbk => by
    rw [← hq]
    exact bi_okk_le hqf hql (m4 b k hbk)
  refine bi_sblk (q := (yL_law, code, 7, ret, RL, 10, 354, [])) (o := .inl (some (.inl 1))) (hf := hf) (h0 := bi_h0 b L xs s.heap.size) (N := n) hk (fun k _ => bi_sound hlt bt_ok k) hx hb hml hown (fun z => absurd z (by decide)) rfl rfl (Or.inl bi_law_no) ?_ ?_ ?_ n (Nat.le_refl n) 0 _ _ _ 0 hrun m3 bi_up_rf
  · have : 100000 ≤ room_1.cells := by decide
    omega
  · have : 7000000 ≤ room_1.slots := by decide
    omega
  · intro n b1 k L1 st h hkb ht hu
    obtain ⟨-, o2, -, -⟩ := hk b1 k hkb
    have hat : k.2.2.1.1 = .ireturn ∧ st = [.inl 1] ∧ hf = h := by
      unfold bi_t at ht
      split at ht
      all_goals first | (rename_i hi; split at ht <;> first | (split at ht <;> first | (cases ht; exact ⟨hi, rfl, rfl⟩) | cases ht) | cases ht) | cases ht | ((repeat' (split at ht)) <;> cases ht)
    obtain ⟨a1, rfl, rfl⟩ := hat
    have hdg : decode code (bi_end k.1 k.2.1) = .ok (.ireturn, 1) := by
      unfold bi_okt at o2
      rw [a1] at o2
      exact o2.1
    intro H locs ls cells slots hr1 hl1 hw1 hlc hc hs
    have hc : 0 + cells = bi_nc hf := hc
    have hs : 0 + slots = bi_ns hf := hs
    exact va_forget (fun q hq => hlc q hq) (W.widen (k := 100000) (n := 7000000) (by omega) (by omega) (lw_ret hx hb hret hlocks hdg))
/-- from the entry, for every script of at most 3075 ints, the law comes to its end with true, if the interpreter's run does -/
theorem whole_start_open (hR : bi_Runs 3075 100000 7000000) {p : Program} {e : Env} {s : State} {m : MethodId} {below : List Frame} {meth : Method} {c : Code} (l : Launch) (hlt : l.stackTraces = false) {b L : Nat} {xs : Nat → Int32} (hL : L ≤ 3075) (C0 : lw_At p s m meth c b L xs) : W p l e room_1 s m #[Value.ref b] below meth c s.heap [] 0 0 (lw_Z below #[Value.ref b] s) (entryFrame m ([Value.ref b] : List Value).toArray 7) := by
  obtain ⟨n, hf, h1, h2, h3⟩ := hR b L xs s.heap.size hL C0.2.2.2.2.2.2.2.1
  exact bi_law hlt C0 h1 h2 h3
