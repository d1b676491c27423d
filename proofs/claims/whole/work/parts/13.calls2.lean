/-! calls with a receiver -/
section BV
variable {p : Program} {l : Launch} {e : Env} {R : Room} {s : State} {m : MethodId} {args : Array Value} {below : List Frame} {meth : Method} {cd : Code} {Q : State → Prop} {D : va_G} {B0 : Nat} {Hb : Heap} {nL n0 m0 : Nat} {cc : ByteArray} {pc : Nat} {own : String} {L L' : bi_L} {st st' : List bi_V} {h h' : bi_H} {ini : Bool} {r : bi_R} {cf : Nat → List bi_V → bi_H → Option (Option bi_V × bi_H)} {M : Nat → Option bi_M}
theorem bi_recv {H : Heap} {a c : Nat} {cq : vw_C} (hr : bi_rp D B0 Hb h s H) (hk : (bi_k h (a + 1)).1 = 10 + c) (hq : vwCl[c]? = some cq) : ∃ cellB : Cell, H[a]? = some cellB ∧ cellB.vm.isStatics = false ∧ s.vm.findClass cq.1 = some cellB.cls := by
  obtain ⟨q', hq', cell, q1, q2, q3, -⟩ := (hr.2.2.2.2.2 a).1 c hk (bi_c13 hq)
  exact ⟨cell, q1, by rw [q3]; rfl, by rw [q2]; exact (hr.2.1.1 c cq hq).2.1⟩
/-- the stack of a call with a receiver -/
theorem bi_stk {n a : Nat} {rest : List bi_V} (hd : st.drop n = .inr (.inl (a + 1)) :: rest) : st.map bi_tv = ((st.take n).reverse.map bi_tv).reverse ++ .ref a :: rest.map bi_tv := by
  have h1 : st = st.take n ++ .inr (.inl (a + 1)) :: rest := by rw [← hd, List.take_append_drop]
  rw [← List.map_reverse, List.reverse_reverse]
  conv => lhs; rw [h1]
  rw [List.map_append, List.map_cons]
  rfl
theorem bi_take {n a : Nat} {rest : List bi_V} (hd : st.drop n = .inr (.inl a) :: rest) : (st.take n).length = n := by
  have h1 : (st.drop n).length = rest.length + 1 := by rw [hd]; rfl
  rw [List.length_drop] at h1
  rw [List.length_take]
  omega
theorem bi_s_virtual {k : Nat} (hx : p.tables.exec = Jvm.exec) (hb : cd.code = cc) (hml : cd.maxLocals = nL) (hown : s.vm.findClass own = some m.cls) (hcf : bi_cfok l D B0 Hb M cf) (hok : bi_okc M own R (.invokevirtual k) r) (hdg : decode cc pc = .ok (.invokevirtual k, 3)) (he : bi_x cf (.invokevirtual k) r L st h = some (L', st', h')) (hRc : bi_nc h' ≤ n0 + R.cells) (hRs : bi_ns h' ≤ m0 + R.slots) (kk : bi_At p l e R s m args below meth cd Q D B0 Hb nL n0 m0 (pc + 3) L' st' h') : bi_At p l e R s m args below meth cd Q D B0 Hb nL n0 m0 pc L st h := by
  intro H locs ls cells slots hr hl hw hlc hc hs
  obtain ⟨q, cq, hM, hqn, hq0, hkb, hcq, hlk, hins, hsel⟩ := hok
  have he : bi_callo cf r.1 r.2.1 r.2.2.1 L st h = some (L', st', h') := he
  unfold bi_callo at he
  split at he
  · rename_i a rest hdrop
    split at he
    · rename_i hn
      obtain ⟨hn1, hn2, hn3⟩ := hn
      unfold bi_ret at he
      split at he
      · rename_i v h1 hcall
        cases he
        obtain ⟨b, rfl⟩ := bi_kz hr (a := a) (by omega)
        have hlen := bi_take hdrop
        have hw1 := bi_w1 (st.take r.2.1) (by rw [hlen]; exact hn3)
        obtain ⟨g1, g2, hMet⟩ := hcf r.1 _ h v h' hcall (fun x hx => (List.mem_cons.mp hx).elim (fun z => by rw [z]; rfl) (fun z => hw1 x (List.mem_reverse.mp z))) q hM (by rw [List.length_cons, List.length_reverse, hlen]; exact hqn)
        have hrun := va_runV (args := args) (R := R) (H := H) (locs := locs) (cells := cells) (slots := slots) (below := below) (meth := meth) (e := e) (C := cq.1) (b := b) (g := F0 m pc ls (st.map bi_tv)) (As := (st.take r.2.1).reverse.map bi_tv) (rest := rest.map bi_tv) (Ts := []) ⟨hx, hb, hml, hown, fun w hw => by cases hw⟩ hMet ⟨bi_callB hr hq0 hkb hlk, bi_hts hr hins rfl, bi_hts hr hsel rfl⟩ ⟨bi_blind, bi_recv hr hn1 hcq, fun U hU hW => ⟨rfl, by show bi_rp D B0 Hb h U U.heap; rw [hU]; exact hr.moved hW⟩⟩ rfl (by rw [List.length_map, List.length_reverse, hlen]) hl.1 (bi_stk hdrop) (bi_room hn2) hdg ⟨by omega, by omega⟩
        refine bi_after hr hlc hrun (fun H' locs' hr' hlc' => ?_)
        rw [← bi_tolist]
        exact kk H' locs' ls _ _ hr' hl hw hlc' (by omega) (by omega)
      · cases he
    · cases he
  · cases he
theorem bi_s_special {k : Nat} (hx : p.tables.exec = Jvm.exec) (hb : cd.code = cc) (hml : cd.maxLocals = nL) (hown : s.vm.findClass own = some m.cls) (hcf : bi_cfok l D B0 Hb M cf) (hok : bi_okc M own R (.invokespecial k) r) (hdg : decode cc pc = .ok (.invokespecial k, 3)) (he : bi_x cf (.invokespecial k) r L st h = some (L', st', h')) (hRc : bi_nc h' ≤ n0 + R.cells) (hRs : bi_ns h' ≤ m0 + R.slots) (kk : bi_At p l e R s m args below meth cd Q D B0 Hb nL n0 m0 (pc + 3) L' st' h') : bi_At p l e R s m args below meth cd Q D B0 Hb nL n0 m0 pc L st h := by
  intro H locs ls cells slots hr hl hw hlc hc hs
  have hok : if r.1 = 9999 then Cond.methodLink own k objectInit ∈ lw_tbl ∧ Cond.instanceMethod objectInit ∈ lw_tbl ∧ Cond.code objectInit ⟨#[0xb1]⟩ 1 none ∈ lw_tbl ∧ 1 ≤ R.frames ∧ 20 ≤ R.locals
    else ∃ q cq, M r.1 = some q ∧ r.2.1 + 1 ≤ q.2.2.1 ∧ q.2.2.2.2.2.2.2 = [] ∧ bi_okb R q r.2.1 ∧ vwCl[r.2.2.1]? = some cq ∧ q.1.name = "<init>" ∧ q.2.2.2.1 = none ∧ Cond.instanceMethod q.1 ∈ lw_tbl ∧ (Cond.methodLink own k q.1 ∈ lw_tbl ∨ ∃ host, Cond.methodLinkNest own k q.1 host ∈ lw_tbl) := hok
  unfold bi_x at he
  dsimp only at he
  by_cases h9 : r.1 = 9999
  · rw [if_pos h9] at he hok
    obtain ⟨o1, o2, o3, o4, o5⟩ := hok
    split at he
    · rename_i a st0
      split at he
      · rename_i ha
        cases he
        obtain ⟨b, rfl⟩ := bi_kz hr ha.1
        refine W.objInit hx hb hown (bi_hts hr o1 rfl) (bi_hts hr o2 rfl) (bi_hts hr o3 rfl) (g := F0 m pc ls (.ref b :: st'.map bi_tv)) rfl (by rw [hml]; exact hl.1) rfl hdg o4 ?_ (kk H locs ls cells slots hr hl hw hlc hc hs)
        show 2 * 0 + _ + 12 ≤ R.locals
        rw [bi_sumr]
        omega
      · cases he
    · cases he
  · rw [if_neg h9] at he hok
    obtain ⟨q, cq, hM, hqn, hq0, hkb, hcq, hnm, hret, hins, hlk⟩ := hok
    unfold bi_callo at he
    split at he
    · rename_i a rest hdrop
      split at he
      · rename_i hn
        obtain ⟨hn1, hn2, hn3⟩ := hn
        unfold bi_ret at he
        split at he
        · rename_i v h1 hcall
          cases he
          obtain ⟨b, rfl⟩ := bi_kz hr (a := a) (by omega)
          have hlen := bi_take hdrop
          have hw1 := bi_w1 (st.take r.2.1) (by rw [hlen]; exact hn3)
          obtain ⟨g1, g2, hMet⟩ := hcf r.1 _ h v h' hcall (fun x hx => (List.mem_cons.mp hx).elim (fun z => by rw [z]; rfl) (fun z => hw1 x (List.mem_reverse.mp z))) q hM (by rw [List.length_cons, List.length_reverse, hlen]; exact hqn)
          have hpre : PreS s H (bi_Pc D B0 Hb (.inr (.inl (b + 1)) :: (st.take r.2.1).reverse) h) (.ref b :: (st.take r.2.1).reverse.map bi_tv) := ⟨bi_blind, fun U hU hW => ⟨rfl, by show bi_rp D B0 Hb h U U.heap; rw [hU]; exact hr.moved hW⟩⟩
          have hrun : va_Run p l e R s m args below meth cd H locs cells slots (bi_nc h' - bi_nc h) (bi_ns h' - bi_ns h) (F0 m pc ls (st.map bi_tv)) (rest.map bi_tv) (bi_Qc D B0 Hb v h' (Value.ref b :: (st.take r.2.1).reverse.map bi_tv).toArray) (fun x => B0 ≤ x) := by
            rcases hlk with hlk | ⟨host, hlk⟩
            · have cb := bi_callB (args := args) (own := own) (h' := h') hr hq0 hkb hlk
              rw [hret] at cb
              exact va_runI (H := H) (b := b) (g := F0 m pc ls (st.map bi_tv)) (As := (st.take r.2.1).reverse.map bi_tv) (rest := rest.map bi_tv) (Ts := []) ⟨hx, hb, hml, hown, fun w hw => by cases hw⟩ hMet ⟨cb, hnm, bi_hts hr hins rfl⟩ hpre rfl (by rw [List.length_map, List.length_reverse, hlen]) hl.1 (bi_stk hdrop) (bi_room hn2) hdg ⟨by omega, by omega⟩
            · have cb := bi_callN (args := args) (own := own) (h' := h') hr hq0 hkb hlk
              rw [hret] at cb
              exact va_runIN (H := H) (b := b) (g := F0 m pc ls (st.map bi_tv)) (As := (st.take r.2.1).reverse.map bi_tv) (rest := rest.map bi_tv) (Ts := []) ⟨hx, hb, hml, hown, fun w hw => by cases hw⟩ hMet ⟨cb, hnm, bi_hts hr hins rfl⟩ hpre rfl (by rw [List.length_map, List.length_reverse, hlen]) hl.1 (bi_stk hdrop) (bi_room hn2) hdg ⟨by omega, by omega⟩
          refine bi_after hr hlc hrun (fun H' locs' hr' hlc' => ?_)
          rw [← bi_tolist]
          exact kk H' locs' ls _ _ hr' hl hw hlc' (by omega) (by omega)
        · cases he
      · cases he
    · cases he
end BV
