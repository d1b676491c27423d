/-! every run of the interpreter is a run of the machine -/
/-- a call that may throw, with its handlers, as the code has it -/
def bi_okty (M : Nat → Option bi_M) (P : bi_P) (mi : Nat) (own : String) (nL : Nat) (R : Room) (cc : ByteArray) (hh : List (Nat × Nat × Nat × Nat)) (pc k : Nat) (r : bi_R) (bs : List Nat) : Prop :=
  bi_okc M own R (.invokevirtual k) r ∧ decode cc pc = .ok (.invokevirtual k, 3) ∧ bi_pc P mi (bs.getD 0 0) = some (pc + 3) ∧ bs.length ≤ 3 ∧ r.2.2.2 < nL ∧
  (1 < bs.length → ∃ a hs, hh = a :: hs ∧ (a.1 ≤ pc ∧ pc < a.2.1) ∧ a.2.2.2 ≠ 0 ∧ Cond.classLink own a.2.2.2 (bi_en 0) ∈ lw_tbl ∧ decode cc a.2.2.1 = .ok (.astore r.2.2.2, 2) ∧ bi_pc P mi (bs.getD 1 0) = some (a.2.2.1 + 2)) ∧
  (2 < bs.length → ∃ a b hs, hh = a :: b :: hs ∧ a.2.2.2 ≠ 0 ∧ Cond.classLink own a.2.2.2 (bi_en 0) ∈ lw_tbl ∧ (b.1 ≤ pc ∧ pc < b.2.1) ∧ b.2.2.2 ≠ 0 ∧ Cond.classLink own b.2.2.2 (bi_en 1) ∈ lw_tbl ∧ decode cc b.2.2.1 = .ok (.astore r.2.2.2, 2) ∧ bi_pc P mi (bs.getD 2 0) = some (b.2.2.1 + 2))
theorem bi_cast : Cond.castable (bi_en 0) (bi_en 0) ∈ lw_tbl ∧ Cond.castable (bi_en 1) (bi_en 1) ∈ lw_tbl := by decide +kernel
theorem bi_casto (a b : String) : bi_ok (.castable a b) = true := rfl
def bi_mr (q : bi_M) : Room := { frames := q.2.2.2.2.2.1, cells := 0, slots := 0, locals := q.2.2.2.2.2.2.1 }
/-- a method's table as the code has it -/
def bi_okk (M : Nat → Option bi_M) (P : bi_P) (mi : Nat) (q : bi_M) (k : bi_K) : Prop :=
  bi_okr M q.2.2.2.2.1 q.2.2.1 (decide (q.1.name = "<init>")) (bi_mr q) q.2.1 k.1 k.2.1 ∧ bi_okt P mi q.2.1 q.2.2.2.1 (bi_end k.1 k.2.1) k.2.2.1 k.2.2.2 ∧ (k.2.2.1.1 = .athrow → bi_oktx q.2.2.2.2.1 q.2.1 (bi_mr q) (bi_end k.1 k.2.1) k.2.2.1.2) ∧ ∀ i, k.2.2.1.1 = .invokevirtual i → bi_okty M P mi q.2.2.2.2.1 q.2.2.1 (bi_mr q) q.2.1 q.2.2.2.2.2.2.2 (bi_end k.1 k.2.1) i k.2.2.1.2 k.2.2.2
def bi_okm (M : Nat → Option bi_M) (P : bi_P) (mi : Nat) (q : bi_M) : Prop := plainFor q.1 = true ∧ q.1.cls = q.2.2.2.2.1 ∧ bi_pc P mi 0 = some 0 ∧ ∀ b k, P mi b = some k → bi_okk M P mi q k
/-- runs of n blocks are runs of the machine -/
def bi_Sn (l : Launch) (D : va_G) (B0 : Nat) (Hb : Heap) (M : Nat → Option bi_M) (P : bi_P) (n : Nat) : Prop := ∀ (mi : Nat) (q : bi_M) (as : List bi_V) (h : bi_H) (o : bi_O) (h' : bi_H), M mi = some q → bi_run P n mi 0 (bi_loc as) [] h = some (o, h') → (∀ x ∈ as, bi_w x = 1) → as.length ≤ q.2.2.1 →
  match o with
  | .inl v => bi_Ct l D B0 Hb q as h v h'
  | .inr e => q.2.2.2.2.2.2.2 = [] → bi_Cx l D B0 Hb q as h e h'
theorem bi_Sn_cf {l : Launch} {D : va_G} {B0 : Nat} {Hb : Heap} {M : Nat → Option bi_M} {P : bi_P} {n : Nat} (hS : bi_Sn l D B0 Hb M P n) : bi_cfok l D B0 Hb M (bi_cfn P n) := by
  intro mi as h v h' hc hw q hq hl
  unfold bi_cfn at hc
  split at hc
  · rename_i v0 h0 hr
    cases hc
    exact hS mi q as h _ _ hq hr hw hl
  · cases hc
theorem bi_okc_room {M : Nat → Option bi_M} {own : String} {R R' : Room} {i : Instr} {r : bi_R} (hf : R'.frames = R.frames) (hl : R'.locals = R.locals) (h : bi_okc M own R i r) : bi_okc M own R' i r := by
  unfold bi_okc at h ⊢
  unfold bi_okb at h ⊢
  rw [hf, hl]
  exact h
section BK
variable {p : Program} {l : Launch} {e : Env} {R : Room} {s : State} {m : MethodId} {args : Array Value} {below : List Frame} {meth : Method} {cd : Code} {Q : State → Prop} {D : va_G} {B0 : Nat} {Hb : Heap} {nL n0 m0 : Nat} {cc : ByteArray} {pc : Nat} {own : String} {L L' : bi_L} {st st' : List bi_V} {h h' : bi_H} {ini : Bool} {r : bi_R} {M : Nat → Option bi_M} {P : bi_P}
/-- a handler: the exception goes into a local, of which no more is said -/
theorem bi_handler {H : Heap} {locs : List Loc} {cells slots k hp qa : Nat} {ls : Array Slot} (hx : p.tables.exec = Jvm.exec) (hb : cd.code = cc) (hk : k < nL) (hdg : decode cc hp = .ok (.astore k, 2)) (hr : bi_rp D B0 Hb h s H) (hl : lv_has ls nL (L.map bi_lq)) (hw : ∀ q ∈ L, bi_w q.2 = 1) (hlc : ∀ q ∈ locs, B0 ≤ q.base) (hc : n0 + cells = bi_nc h) (hs : m0 + slots = bi_ns h) (kk : bi_At p l e R s m args below meth cd Q D B0 Hb nL n0 m0 (hp + 2) (L.filter (fun q => !(q.1 == k))) [] h) : W p l e R s m args below meth cd H locs cells slots Q (F0 m hp ls [.ref qa]) := by
  refine lv_astore hx hb hdg hl hk rfl (fun ls' h9 => kk H locs ls' cells slots hr ?_ (fun q hq => hw q (List.mem_filter.mp hq).1) hlc hc hs)
  have h8 := bi_stl (v := .inr (.inl (qa + 1))) hw h9
  exact ⟨h8.1, h8.2.1, fun q hq => h8.2.2 q (by
    obtain ⟨x, hx1, rfl⟩ := List.mem_map.mp hq
    exact List.mem_map.mpr ⟨x, List.mem_cons_of_mem _ hx1, rfl⟩)⟩
theorem bi_st_try {N mi k : Nat} {bs : List Nat} {hh : List (Nat × Nat × Nat × Nat)} {w : Nat × bi_L × List bi_V × bi_H} (hx : p.tables.exec = Jvm.exec) (hb : cd.code = cc) (hml : cd.maxLocals = nL) (hown : s.vm.findClass own = some m.cls) (hte : cd.exceptionTable.toList = tableOf hh) (hS : bi_Sn l D B0 Hb M P N) (hok : bi_okty M P mi own nL R cc hh pc k r bs) (he : bi_t (fun m as h => bi_run P N m 0 (bi_loc as) [] h) (.invokevirtual k, r) bs L st h = some (.inr w)) (hRc : bi_nc w.2.2.2 ≤ n0 + R.cells) (hRs : bi_ns w.2.2.2 ≤ m0 + R.slots) (kk : ∀ pc', bi_pc P mi w.1 = some pc' → bi_At p l e R s m args below meth cd Q D B0 Hb nL n0 m0 pc' w.2.1 w.2.2.1 w.2.2.2) : bi_At p l e R s m args below meth cd Q D B0 Hb nL n0 m0 pc L st h := by
  intro H locs ls cells slots hr hl hw hlc hc hs
  obtain ⟨hokc, hdg, hp3, hb3, hkn, hh1, hh2⟩ := hok
  obtain ⟨q, cq, hM, hqn, hq0, hkb, hcq, hlk, hins, hsel⟩ := hokc
  unfold bi_t at he
  dsimp only at he
  split at he
  · rename_i a rest hdrop
    split at he
    · rename_i hn
      obtain ⟨hn1, hn2, hn3⟩ := hn
      obtain ⟨b, rfl⟩ := bi_kz hr (a := a) (by omega)
      have hlen := bi_take hdrop
      have hw1 := bi_w1 (st.take r.2.1) (by rw [hlen]; exact hn3)
      have hwa : ∀ x ∈ (Sum.inr (Sum.inl (b + 1)) : bi_V) :: (st.take r.2.1).reverse, bi_w x = 1 := fun x hx => (List.mem_cons.mp hx).elim (fun z => by rw [z]; rfl) (fun z => hw1 x (List.mem_reverse.mp z))
      have hla : ((Sum.inr (Sum.inl (b + 1)) : bi_V) :: (st.take r.2.1).reverse).length ≤ q.2.2.1 := by rw [List.length_cons, List.length_reverse, hlen]; exact hqn
      have hpre : PreV s H cq.1 b (bi_Pc D B0 Hb (.inr (.inl (b + 1)) :: (st.take r.2.1).reverse) h) ((st.take r.2.1).reverse.map bi_tv) := ⟨bi_blind, bi_recv hr hn1 hcq, fun U hU hW => ⟨rfl, by show bi_rp D B0 Hb h U U.heap; rw [hU]; exact hr.moved hW⟩⟩
      split at he
      · rename_i v h1 hcall
        cases he
        obtain ⟨g1, g2, hMet⟩ := hS _ q _ _ _ _ hM hcall hwa hla
        dsimp only at hRc hRs kk
        have hrun := va_runV (args := args) (R := R) (H := H) (locs := locs) (cells := cells) (slots := slots) (below := below) (meth := meth) (e := e) (C := cq.1) (b := b) (g := F0 m pc ls (st.map bi_tv)) (As := (st.take r.2.1).reverse.map bi_tv) (rest := rest.map bi_tv) (Ts := []) ⟨hx, hb, hml, hown, fun w hw => by cases hw⟩ hMet ⟨bi_callB hr hq0 hkb hlk, bi_hts hr hins rfl, bi_hts hr hsel rfl⟩ hpre rfl (by rw [List.length_map, List.length_reverse, hlen]) hl.1 (bi_stk hdrop) (bi_room hn2) hdg ⟨by omega, by omega⟩
        refine bi_after hr hlc hrun (fun H' locs' hr' hlc' => ?_)
        rw [← bi_tolist]
        exact kk _ hp3 H' locs' ls _ _ hr' hl hw hlc' (by omega) (by omega)
      · rename_i x h1 hcall
        split at he
        · rename_i hxb
          cases he
          obtain ⟨g1, g2, hMet⟩ := hS _ q _ _ _ _ hM hcall hwa hla hq0
          dsimp only at hRc hRs kk
          have hrun := vx_runV (args := args) (R := R) (H := H) (locs := locs) (cells := cells) (slots := slots) (below := below) (meth := meth) (e := e) (C := cq.1) (b := b) (g := F0 m pc ls (st.map bi_tv)) (As := (st.take r.2.1).reverse.map bi_tv) (rest := rest.map bi_tv) (Ts := []) ⟨hx, hb, hml, hown, fun w hw => by cases hw⟩ hMet ⟨bi_callB hr hq0 hkb hlk, bi_hts hr hins rfl, bi_hts hr hsel rfl⟩ hpre rfl (by rw [List.length_map, List.length_reverse, hlen]) hl.1 (bi_stk hdrop) (bi_room hn2) hdg ⟨by omega, by omega⟩
          intro T hT X
          rcases hrun T hT X with ⟨v, st₀, t, T', LL, h0, X', hL, e1, e2, hno, -⟩ | ⟨qa, st₀, t, T', LL, E, ce, h0, X', hL, e1, e2, ⟨hE, hq⟩, hce, hcv, hcl, hsteps⟩
          · exact hno.elim
          · have hal : t.vm.Alike s.vm := by rw [← e2]; exact X'.warmed.alike.symm
            have hrp : bi_rp D B0 Hb h1 s T'.heap := by rw [e1]; exact hq.to hal hr.2.2.1
            have hlc' : ∀ q ∈ locs ++ LL, B0 ≤ q.base := fun q hq => (List.mem_append.mp hq).elim (hlc q) (hL q)
            subst hE
            have hx2 : x = 0 ∨ x = 1 := by omega
            have fin : vx_W p l e R s m args below meth cd T'.heap (locs ++ LL) (cells + (bi_nc h1 - bi_nc h)) (slots + (bi_ns h1 - bi_ns h)) Q (F0 m pc ls (rest.map bi_tv)) qa := by
              rcases hx2 with rfl | rfl
              · obtain ⟨a0, hs0, rfl, hcov, hne, hlk0, hda, hpa⟩ := hh1 (by omega)
                have hcv0 : covers (⟨a0.1, a0.2.1, a0.2.2.1, a0.2.2.2⟩ : ExceptionTableEntry) pc = true := by simp [covers, hcov.1, hcov.2]
                exact vx_catch (name := bi_en 0) hown [] ⟨a0.1, a0.2.1, a0.2.2.1, a0.2.2.2⟩ (tableOf hs0) hte (fun z hz => by cases hz) hcv0 hne (bi_hts hr hlk0 rfl) (bi_hts hr bi_cast.1 (bi_casto _ _)) (by rw [e1]; exact hce) hcv hcl (bi_handler hx hb hkn hda hrp hl hw hlc' (by omega) (by omega) (kk _ hpa))
              · obtain ⟨a0, b0, hs0, rfl, hne0, hlk0, hcov, hne, hlk1, hda, hpa⟩ := hh2 (by omega)
                have hcv0 : covers (⟨b0.1, b0.2.1, b0.2.2.1, b0.2.2.2⟩ : ExceptionTableEntry) pc = true := by simp [covers, hcov.1, hcov.2]
                exact vx_catch (name := bi_en 1) hown [⟨a0.1, a0.2.1, a0.2.2.1, a0.2.2.2⟩] ⟨b0.1, b0.2.1, b0.2.2.1, b0.2.2.2⟩ (tableOf hs0) hte (fun z hz => by
                  rw [List.mem_singleton.mp hz]
                  exact Or.inr ⟨hne0, _, bi_hts hr hlk0 rfl, hr.2.2.1.2.2.2.2⟩) hcv0 hne (bi_hts hr hlk1 rfl) (bi_hts hr bi_cast.2 (bi_casto _ _)) (by rw [e1]; exact hce) hcv hcl (bi_handler hx hb hkn hda hrp hl hw hlc' (by omega) (by omega) (kk _ hpa))
            obtain ⟨t2, a1, b1⟩ := fin T' rfl X'
            exact ⟨t2, hsteps.trans a1, b1⟩
        · cases he
      · cases he
    · cases he
  · cases he
end BK
