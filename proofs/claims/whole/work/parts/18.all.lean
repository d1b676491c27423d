/-! every run of the interpreter is a run of the machine: blocks, then methods -/
section BF
variable {p : Program} {l : Launch} {e : Env} {R : Room} {s : State} {m : MethodId} {args : Array Value} {below : List Frame} {meth : Method} {cd : Code} {Q : State → Prop} {D : va_G} {B0 : Nat} {Hb : Heap} {nL n0 m0 : Nat} {cc : ByteArray} {pc : Nat} {own : String} {L L' : bi_L} {st st' : List bi_V} {h h' : bi_H} {ini : Bool} {r : bi_R} {M : Nat → Option bi_M} {P : bi_P}
theorem bi_sblk {N mi : Nat} {q : bi_M} {o : bi_O} {hf h0 : bi_H} (hk : ∀ b k, P mi b = some k → bi_okk M P mi q k) (hS : ∀ k, k < N → bi_Sn l D B0 Hb M P k) (hx : p.tables.exec = Jvm.exec) (hb : cd.code = q.2.1) (hml : cd.maxLocals = q.2.2.1) (hown : s.vm.findClass q.2.2.2.2.1 = some m.cls) (hini : decide (q.1.name = "<init>") = true → meth.name = "<init>") (hRf : R.frames = q.2.2.2.2.2.1) (hRl : R.locals = q.2.2.2.2.2.2.1) (hte : (∀ i b k, P mi b = some k → k.2.2.1.1 ≠ .invokevirtual i) ∨ cd.exceptionTable.toList = tableOf q.2.2.2.2.2.2.2) (hRc : bi_nc hf ≤ n0 + R.cells) (hRs : bi_ns hf ≤ m0 + R.slots)
    (hend : ∀ (n b : Nat) (k : bi_K) (L : bi_L) (st : List bi_V) (h : bi_H), P mi b = some k → bi_t (fun m as h => bi_run P n m 0 (bi_loc as) [] h) k.2.2.1 k.2.2.2 L st h = some (.inl (o, hf)) → bi_up h0 h → bi_At p l e R s m args below meth cd Q D B0 Hb q.2.2.1 n0 m0 (bi_end k.1 k.2.1) L st h) :
    ∀ n, n ≤ N → ∀ (b : Nat) (L : bi_L) (st : List bi_V) (h : bi_H) (pc : Nat), bi_run P n mi b L st h = some (o, hf) → bi_pc P mi b = some pc → bi_up h0 h → bi_At p l e R s m args below meth cd Q D B0 Hb q.2.2.1 n0 m0 pc L st h
  | 0, _, _, _, _, _, _, he, _, _ => by cases he
  | n + 1, hn, b, L, st, h, pc, he, hpc, hu => by
    unfold bi_run at he
    split at he
    · cases he
    · rename_i k hkb
      obtain ⟨o1, o2, o3, o4⟩ := hk b k hkb
      have epc : k.1 = pc := by
        unfold bi_pc at hpc
        rw [hkb] at hpc
        exact Option.some.inj hpc
      subst epc
      split at he
      · cases he
      · rename_i z hz
        have hz : bi_xs (bi_cfn P n) k.2.1 L st h = some z := hz
        have u1 : bi_up h z.2.2 := bi_up_xs (bi_up_cfn P n) _ hz
        have u2 := bi_up_t (t := k.2.2.1) (bs := k.2.2.2) (L := z.1) (st := z.2.1) (h := z.2.2) (cf := fun m as h => bi_run P n m 0 (bi_loc as) [] h) (fun mi as h o h' hc => bi_up_run P n _ _ _ _ _ _ _ hc)
        have hcf := bi_Sn_cf (hS n (by omega))
        have hokr := bi_okr_room (R' := R) (R := bi_mr q) hRf hRl _ _ o1
        have step : bi_up z.2.2 hf → bi_At p l e R s m args below meth cd Q D B0 Hb q.2.2.1 n0 m0 (bi_end k.1 k.2.1) z.1 z.2.1 z.2.2 → bi_At p l e R s m args below meth cd Q D B0 Hb q.2.2.1 n0 m0 k.1 L st h := fun u kk => bi_sxs hx hb hml hown hini hcf (bi_up_cfn P n) k.2.1 k.1 hokr hz (Nat.le_trans u.1 hRc) (Nat.le_trans u.2.1 hRs) kk
        split at he
        · cases he
        · rename_i o9 ht
          cases he
          exact step (u2.1 _ _ ht) (hend n b k z.1 z.2.1 z.2.2 hkb ht (hu.tr u1))
        · rename_i w ht
          have uw : bi_up z.2.2 w.2.2.2 := u2.2 _ _ _ _ ht
          have uf : bi_up w.2.2.2 hf := bi_up_run P n _ _ _ _ _ _ _ he
          refine step (uw.tr uf) ?_
          have ih := fun pc' (hp' : bi_pc P mi w.1 = some pc') => bi_sblk hk hS hx hb hml hown hini hRf hRl hte hRc hRs hend n (by omega) w.1 w.2.1 w.2.2.1 w.2.2.2 pc' he hp' ((hu.tr u1).tr uw)
          by_cases hiv : ∃ i, k.2.2.1.1 = .invokevirtual i
          · obtain ⟨i, hi⟩ := hiv
            have hte' : cd.exceptionTable.toList = tableOf q.2.2.2.2.2.2.2 := hte.resolve_left (fun z => z i b k hkb hi)
            have hty := o4 i hi
            have et : k.2.2.1 = (.invokevirtual i, k.2.2.1.2) := Prod.ext hi rfl
            rw [et] at ht
            have hty' : bi_okty M P mi q.2.2.2.2.1 q.2.2.1 R q.2.1 q.2.2.2.2.2.2.2 (bi_end k.1 k.2.1) i k.2.2.1.2 k.2.2.2 := ⟨bi_okc_room hRf hRl hty.1, hty.2⟩
            exact bi_st_try hx hb hml hown hte' (hS n (by omega)) hty' ht (Nat.le_trans uf.1 hRc) (Nat.le_trans uf.2.1 hRs) ih
          · exact bi_st_next hx hb o2 (fun i hi => hiv ⟨i, hi⟩) ht ih
end BF
theorem bi_loc_args : ∀ (as : List bi_V) (i : Nat), (∀ x ∈ as, bi_w x = 1) → lv_args i (as.map bi_tv) = ((as.zipIdx i).map (fun q => (q.2, q.1))).map bi_lq
  | [], _, _ => rfl
  | a :: as, i, hw => by
    have h1 : (bi_tv a).category = 1 := by rw [bi_cat]; exact hw a List.mem_cons_self
    rw [List.map_cons, lv_args, if_neg (by omega), bi_loc_args as (i + 1) (fun x hx => hw x (List.mem_cons_of_mem _ hx)), List.zipIdx_cons, List.map_cons, List.map_cons]
    rfl
theorem bi_lgsl : ∀ (as : List bi_V), (∀ x ∈ as, bi_w x = 1) → (lg_sl (as.map bi_tv)).length = as.length
  | [], _ => rfl
  | a :: as, hw => by
    have h1 : ¬ (bi_tv a).category = 2 := by rw [bi_cat, hw a List.mem_cons_self]; decide
    have ih := bi_lgsl as (fun x hx => hw x (List.mem_cons_of_mem _ hx))
    unfold lg_sl at ih ⊢
    rw [List.map_cons, List.flatMap_cons, if_neg h1, List.length_append, ih, List.length_cons]
    simp
    omega
theorem bi_locw {as : List bi_V} (hw : ∀ x ∈ as, bi_w x = 1) : ∀ q ∈ bi_loc as, bi_w q.2 = 1 := by
  intro q hq
  obtain ⟨x, hx, rfl⟩ := List.mem_map.mp hq
  exact hw x.1 (List.fst_mem_of_mem_zipIdx hx)
/-- a method's entry -/
theorem bi_entry {p : Program} {l : Launch} {e : Env} {R : Room} {s : State} {m : MethodId} {below : List Frame} {meth : Method} {cd : Code} {Q : State → Prop} {D : va_G} {B0 : Nat} {Hb : Heap} {nL : Nat} {as : List bi_V} {h : bi_H} (hw : ∀ x ∈ as, bi_w x = 1) (hl : as.length ≤ nL) (hr : bi_rp D B0 Hb h s s.heap) (kk : bi_At p l e R s m (as.map bi_tv).toArray below meth cd Q D B0 Hb nL (bi_nc h) (bi_ns h) 0 (bi_loc as) [] h) : W p l e R s m (as.map bi_tv).toArray below meth cd s.heap [] 0 0 Q (entryFrame m (as.map bi_tv).toArray nL) := by
  rw [lg_entry_eq]
  refine kk s.heap [] _ 0 0 hr ?_ (bi_locw hw) (fun q hq => by cases hq) rfl rfl
  have h1 := lv_entry (as.map bi_tv) (n := nL) (by rw [bi_lgsl as hw]; exact hl)
  rw [bi_loc_args as 0 hw] at h1
  exact h1
/-- contracts of methods whose class has natives beside them (java/lang/Math) -/
theorem bi_ofWF {l : Launch} {y : MethodName} {ws ws' : List Cond} {rm : Room} {Pc : Array Value → State → Prop} {Qc : Array Value → State → Outcome → State → Prop} {mc ms : Nat} {free : Addr → Prop} {cc : ByteArray} {maxL : Nat} {ret : Option FieldType} (hy : plainFor y = true) (hw : ws = Cond.code y cc maxL ret :: ws')
    (body : ∀ p e s m args below meth c s₁, BodyLoose p l y (headSpec ws rm) cc maxL ret e s m args below meth c s₁ → c.maxLocals = maxL → Pc args s → W p l e (headSpec ws rm).room s m args below meth c s.heap [] 0 0 (MQ below Qc args s mc ms free) (entryFrame m args maxL)) : Met l y ws rm Pc Qc mc ms free := by
  refine MetFree.of_bodySF (code := cc) (maxLocals := maxL) (ret := ret) hy ?_ ?_
  · intro args s m h hn
    obtain ⟨meth, c, h1, h2, h3, h4, h5, h6, -, -⟩ := Cond.code_spec hn (atoms_spec (ws := ws) h _ (by rw [hw]; exact List.mem_cons_self))
    exact ⟨meth, c, h1, h2, h3, h4, h5, h6⟩
  · intro p e s m args below meth c s₁ B hml hP _
    have hh0 : s₁.heap = s.heap := by rw [B.state]; rfl
    obtain ⟨t, a1, o, b1, b2, b3⟩ := body p e s m args below meth c s₁ B hml hP s₁ hh0 (Stand.of_body B)
    exact ⟨t, o, a1, b1, b2, ⟨b3.1, b3.2⟩⟩
theorem bi_ofWH {l : Launch} {y : MethodName} {ws ws' : List Cond} {rm : Room} {Pc : Array Value → State → Prop} {Qc : Array Value → State → Outcome → State → Prop} {mc ms : Nat} {free : Addr → Prop} {cc : ByteArray} {maxL : Nat} {ret : Option FieldType} {hh : List (Nat × Nat × Nat × Nat)} (hy : plainFor y = true) (hw : ws = Cond.codeWith y cc maxL ret hh :: ws')
    (body : ∀ p e s m args below meth c s₁, BodyLoose p l y (headSpec ws rm) cc maxL ret e s m args below meth c s₁ → c.maxLocals = maxL → Pc args s → W p l e (headSpec ws rm).room s m args below meth c s.heap [] 0 0 (MQ below Qc args s mc ms free) (entryFrame m args maxL)) : Met l y ws rm Pc Qc mc ms free := by
  refine MetFree.of_bodySF (code := cc) (maxLocals := maxL) (ret := ret) hy ?_ ?_
  · intro args s m h hn
    obtain ⟨m9, meth, c, hn9, h1, h2, h3, h4, -, h5, h6, -⟩ := Cond.codeWith_spec (atoms_spec (ws := ws) h _ (by rw [hw]; exact List.mem_cons_self))
    cases hn.symm.trans hn9
    exact ⟨meth, c, h1, h2, h3, h4, h5, h6⟩
  · intro p e s m args below meth c s₁ B hml hP _
    have hh0 : s₁.heap = s.heap := by rw [B.state]; rfl
    obtain ⟨t, a1, o, b1, b2, b3⟩ := body p e s m args below meth c s₁ B hml hP s₁ hh0 (Stand.of_body B)
    exact ⟨t, o, a1, b1, b2, ⟨b3.1, b3.2⟩⟩
theorem bi_ofWX {l : Launch} {y : MethodName} {ws ws' : List Cond} {rm : Room} {Pc : Array Value → State → Prop} {Qc : Array Value → State → Outcome → State → Prop} {XC : String → State → State → Prop} {mc ms : Nat} {free : Addr → Prop} {cc : ByteArray} {maxL : Nat} {ret : Option FieldType} (hy : plainFor y = true) (hw : ws = Cond.code y cc maxL ret :: ws')
    (body : ∀ p e s m args below meth c s₁, BodyLoose p l y (headSpec ws rm) cc maxL ret e s m args below meth c s₁ → c.maxLocals = maxL → (∀ x ∈ c.exceptionTable.toList, False) → Pc args s →
      W p l e (headSpec ws rm).room s m args below meth c s.heap [] 0 0 (vx_MQ below Qc XC args s mc ms free) (entryFrame m args maxL)) : vx_Met l y ws rm Pc Qc XC mc ms free := by
  refine MetFree.of_bodySF (code := cc) (maxLocals := maxL) (ret := ret) hy ?_ ?_
  · intro args s m h hn
    obtain ⟨meth, c, h1, h2, h3, h4, h5, h6, -, -⟩ := Cond.code_spec hn (atoms_spec (ws := ws) h _ (by rw [hw]; exact List.mem_cons_self))
    exact ⟨meth, c, h1, h2, h3, h4, h5, h6⟩
  · intro p e s m args below meth c s₁ B hml hP _
    have hh0 : s₁.heap = s.heap := by rw [B.state]; rfl
    have ht : ∀ x ∈ c.exceptionTable.toList, False := by
      obtain ⟨meth9, c9, h1, h2, -, -, -, -, h7, -⟩ := Cond.code_spec B.named (atoms_spec (ws := ws) B.pre _ (by rw [hw]; exact List.mem_cons_self))
      cases Option.some.inj (h1.symm.trans B.method)
      cases Option.some.inj (h2.symm.trans (Stand.of_body B).code)
      intro x hx
      rw [Array.isEmpty_iff.mp h7] at hx
      cases hx
    obtain ⟨t, a1, o, b1, b2, b3⟩ := body p e s m args below meth c s₁ B hml ht hP s₁ hh0 (Stand.of_body B)
    exact ⟨t, o, a1, b1, b2, b3⟩
set_option maxHeartbeats 1000000 in
/-- all runs -/
theorem bi_sound {l : Launch} {D : va_G} {B0 : Nat} {Hb : Heap} {M : Nat → Option bi_M} {P : bi_P} (hlt : l.stackTraces = false) (hok : ∀ mi q, M mi = some q → bi_okm M P mi q) : ∀ N, bi_Sn l D B0 Hb M P N := by
  intro N
  induction N using Nat.strongRecOn with
  | ind N ih =>
    intro mi q as h o h' hM he hw hl
    obtain ⟨m1, m2, m3, m4⟩ := hok mi q hM
    have up := bi_up_run P N mi 0 (bi_loc as) [] h o h' he
    cases o with
    | inl v =>
      refine ⟨up.1, up.2.1, ?_⟩
      have body : ∀ (p : Program) (e : Env) (s : State) (m : MethodId) (args : Array Value) (below : List Frame) (meth : Method) (c : Code) (s₁ : State), BodyLoose p l q.1 (headSpec [bi_cw q] (bi_rm q h h')) q.2.1 q.2.2.1 q.2.2.2.1 e s m args below meth c s₁ → c.maxLocals = q.2.2.1 → ((∀ i b k, P mi b = some k → k.2.2.1.1 ≠ .invokevirtual i) ∨ c.exceptionTable.toList = tableOf q.2.2.2.2.2.2.2) → bi_Pc D B0 Hb as h args s →
          W p l e (headSpec [bi_cw q] (bi_rm q h h')).room s m args below meth c s.heap [] 0 0 (MQ below (bi_Qc D B0 Hb v h') args s (bi_nc h' - bi_nc h) (bi_ns h' - bi_ns h) (fun x => B0 ≤ x)) (entryFrame m args q.2.2.1) := by
        intro p e s m args below meth c s₁ B hml hte hv
        obtain ⟨rfl, hr⟩ := hv
        have hown : s.vm.findClass q.1.cls = some m.cls := findClass_of_methodNamed B.named
        refine bi_entry hw hl hr ?_
        refine bi_sblk (q := q) (o := .inl v) (hf := h') (h0 := h) m4 (fun k hk => ih k hk) B.exec B.bytes hml (by rw [← m2]; exact hown) (fun z => ?_) rfl rfl hte ?_ ?_ ?_ N (Nat.le_refl N) 0 _ _ h 0 he m3 bi_up_rf
        · have z : q.1.name = "<init>" := of_decide_eq_true z
          have := (name_of_methodNamed B.named B.method).1
          rw [this]
          exact z
        · show bi_nc h' ≤ bi_nc h + (bi_nc h' - bi_nc h)
          have := up.1
          omega
        · show bi_ns h' ≤ bi_ns h + (bi_ns h' - bi_ns h)
          have := up.2.1
          omega
        · intro n b k L st h1 hkb ht hu
          obtain ⟨-, o2, -, -⟩ := m4 b k hkb
          exact bi_st_end B.exec B.bytes B.returns B.notSynchronized o2 ht up.1 up.2.1
      by_cases h0 : q.2.2.2.2.2.2.2 = []
      · refine bi_ofWF (cc := q.2.1) (maxL := q.2.2.1) (ret := q.2.2.2.1) m1 (by rw [bi_cw0 h0]) (fun p e s m args below meth c s₁ B hml hv => body p e s m args below meth c s₁ B hml (Or.inr ?_) hv)
        have hcode : (Cond.code q.1 q.2.1 q.2.2.1 q.2.2.2.1).before args s = true := by
          have := atoms_spec (ws := [bi_cw q]) B.pre (bi_cw q) (List.mem_singleton.mpr rfl)
          rw [bi_cw0 h0] at this
          exact this
        obtain ⟨meth9, c9, h1, h2, -, -, -, -, h7, -⟩ := Cond.code_spec B.named hcode
        cases Option.some.inj (h1.symm.trans B.method)
        cases Option.some.inj (h2.symm.trans (Stand.of_body B).code)
        rw [Array.isEmpty_iff.mp h7, h0]
        rfl
      · refine bi_ofWH (cc := q.2.1) (maxL := q.2.2.1) (ret := q.2.2.2.1) (hh := q.2.2.2.2.2.2.2) m1 (by rw [bi_cw1 h0]) (fun p e s m args below meth c s₁ B hml hv => body p e s m args below meth c s₁ B hml (Or.inr ?_) hv)
        have hcode : (Cond.codeWith q.1 q.2.1 q.2.2.1 q.2.2.2.1 q.2.2.2.2.2.2.2).before args s = true := by
          have := atoms_spec (ws := [bi_cw q]) B.pre (bi_cw q) (List.mem_singleton.mpr rfl)
          rw [bi_cw1 h0] at this
          exact this
        exact vx_table (x := q.1) B hcode
    | inr x =>
      intro h0
      refine ⟨up.1, up.2.1, ?_⟩
      refine bi_ofWX (cc := q.2.1) (maxL := q.2.2.1) (ret := q.2.2.2.1) m1 (by rw [bi_cw0 h0]) (fun p e s m args below meth c s₁ B hml hte hv => ?_)
      obtain ⟨rfl, hr⟩ := hv
      have hown : s.vm.findClass q.1.cls = some m.cls := findClass_of_methodNamed B.named
      refine bi_entry hw hl hr ?_
      refine bi_sblk (q := q) (o := .inr x) (hf := h') (h0 := h) m4 (fun k hk => ih k hk) B.exec B.bytes hml (by rw [← m2]; exact hown) (fun z => ?_) rfl rfl (Or.inr ?_) ?_ ?_ ?_ N (Nat.le_refl N) 0 _ _ h 0 he m3 bi_up_rf
      · have z : q.1.name = "<init>" := of_decide_eq_true z
        have := (name_of_methodNamed B.named B.method).1
        rw [this]
        exact z
      · rw [h0]
        cases hc : c.exceptionTable.toList with
        | nil => rfl
        | cons a b => exact (hte a (by rw [hc]; exact List.mem_cons_self)).elim
      · show bi_nc h' ≤ bi_nc h + (bi_nc h' - bi_nc h)
        have := up.1
        omega
      · show bi_ns h' ≤ bi_ns h + (bi_ns h' - bi_ns h)
        have := up.2.1
        omega
      · intro n b k L st h1 hkb ht hu
        obtain ⟨-, -, o3, -⟩ := m4 b k hkb
        have hat : k.2.2.1.1 = .athrow ∧ st = [] ∧ k.2.2.1.2.1 = x ∧ h' = bi_new h1 (0, 0) 6 := by
          unfold bi_t at ht
          split at ht
          all_goals first | (rename_i hi; split at ht <;> first | (cases ht; exact ⟨hi, rfl, rfl, rfl⟩) | (repeat' (split at ht)) <;> cases ht) | cases ht
        obtain ⟨a1, a2, a3, a4⟩ := hat
        subst a4
        have hok9 : bi_oktx q.2.2.2.2.1 q.2.1 (headSpec [bi_cw q] (bi_rm q h (bi_new h1 (0, 0) 6))).room (bi_end k.1 k.2.1) k.2.2.1.2 := o3 a1
        have e1 : bi_nc (bi_new h1 (0, 0) 6) = bi_nc h1 + 1 := rfl
        have e2 : bi_ns (bi_new h1 (0, 0) 6) = bi_ns h1 + 6 := rfl
        have hsx : s.heap.size + 1 ≤ bi_nx h1 := by rw [hr.1.1]; exact hu.2.2
        have hu1 := hu.1
        have hu2 := hu.2.1
        refine bi_st_throw B.exec B.bytes hml hlt (by rw [← m2]; exact hown) B.notSynchronized hte hr.1.2.2 hsx hok9 a3 hu.1 hu.2.1 ?_ ?_ a2
        · show bi_nc h1 + 1 ≤ bi_nc h + (bi_nc (bi_new h1 (0, 0) 6) - bi_nc h)
          omega
        · show bi_ns h1 + 6 ≤ bi_ns h + (bi_ns (bi_new h1 (0, 0) 6) - bi_ns h)
          omega
