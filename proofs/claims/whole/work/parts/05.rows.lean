/-! the machine's rows over the interpreter's heap: fields, arrays, new cells -/
theorem bi_lay_ok {C : String} {T : u_T} {N : Nat} : ∀ w ∈ u_ws C T N, bi_ok w = true := by
  intro w hw
  obtain ⟨k, -, rfl⟩ := List.mem_map.mp hw
  unfold u_lay
  split <;> rfl
theorem bi_aty_obj {c : Nat} (h : c < 13) : bi_aty (10 + c) = none := by
  unfold bi_aty
  simp only [if_neg (show ¬ (10 + c = 1 ∨ 10 + c = 4) by omega), if_neg (show ¬ 10 + c = 2 by omega), if_neg (show ¬ 10 + c = 3 by omega), if_neg (show ¬ 10 + c = 5 by omega), if_neg (show ¬ 40 ≤ 10 + c by omega)]
theorem bi_c13 {c : Nat} {q : vw_C} (hq : vwCl[c]? = some q) : c < 13 := (List.getElem?_eq_some_iff.mp hq).1
theorem bi_cell.kept {D : va_G} {s : State} {h h' : bi_H} {H H' : Heap} {a : Nat} (hc : bi_cell D s h H a) (ho : H'[a]? = H[a]?) (hk : bi_k h' (a + 1) = bi_k h (a + 1)) (hf : ∀ c k, bi_fv h' c k (a + 1) = bi_fv h c k (a + 1)) (hv : ∀ t j, bi_av h' t (a + 1) j = bi_av h t (a + 1) j) : bi_cell D s h' H' a := by
  refine ⟨fun c h1 h2 => ?_, fun ty hty => ?_⟩
  · rw [hk] at h1
    obtain ⟨q, e1, e2⟩ := hc.1 c h1 h2
    exact ⟨q, e1, (e2.kept ho).to (fun k _ => (hf c k).symm)⟩
  · rw [hk] at hty
    obtain ⟨cell, e1, e2, e3, e4, e5, e6⟩ := hc.2 ty hty
    refine ⟨cell, by rw [ho]; exact e1, e2, e3, by rw [hk]; exact e4, fun j hj => ?_, e6⟩
    rw [hk] at hj ⊢
    rw [hv, e5 j hj]
theorem bi_cell.none {D : va_G} {s : State} {h : bi_H} {H : Heap} {a : Nat} (hk : (bi_k h (a + 1)).1 = 0) : bi_cell D s h H a := by
  refine ⟨fun c h1 _ => by omega, fun ty hty => ?_⟩
  rw [hk] at hty
  simp [bi_aty] at hty
theorem bi_rp.upd {D : va_G} {B0 : Nat} {Hb : Heap} {s : State} {h h' : bi_H} {H H' : Heap} {a : Nat} (hr : bi_rp D B0 Hb h s H) (ha : B0 ≤ a) (hz : H'.size = H.size) (ho : ∀ q, q ≠ a → H'[q]? = H[q]?) (hk : ∀ x, bi_k h' x = bi_k h x) (hn : bi_nx h' = bi_nx h) (hf : ∀ c k b, b ≠ a → bi_fv h' c k (b + 1) = bi_fv h c k (b + 1)) (hv : ∀ t b j, b ≠ a → bi_av h' t (b + 1) j = bi_av h t (b + 1) j) (hc : bi_cell D s h' H' a) : bi_rp D B0 Hb h' s H' := by
  obtain ⟨⟨z1, z2, z3⟩, h2, h3, h4, h5, h6⟩ := hr
  refine ⟨⟨by rw [hz, hn]; exact z1, by rw [hz]; exact z2, fun q hq => by rw [ho q (by omega)]; exact z3 q hq⟩, h2, h3, by rw [hk]; exact h4, fun b hb => ?_, fun b => ?_⟩
  · rw [hk] at hb ⊢
    rw [hz]
    exact h5 b hb
  · by_cases e : b = a
    · subst e
      exact hc
    · exact (h6 b).kept (ho b e) (hk _) (fun c k => hf c k b e) (fun t j => hv t b j e)
theorem bi_rp.born {D : va_G} {B0 : Nat} {Hb : Heap} {s : State} {h : bi_H} {H H' : Heap} {kd : Nat × Nat} {sl : Nat} (hr : bi_rp D B0 Hb h s H) (hz : H'.size = H.size + 1) (ho : ∀ q, q < H.size → H'[q]? = H[q]?) (hc : bi_cell D s (bi_new h kd sl) H' H.size) : bi_rp D B0 Hb (bi_new h kd sl) s H' := by
  obtain ⟨⟨z1, z2, z3⟩, h2, h3, h4, h5, h6⟩ := hr
  have e0 : ∀ x, x ≠ bi_nx h → bi_k (bi_new h kd sl) x = bi_k h x := fun x hx => by simp [bi_k, bi_new, hx]
  refine ⟨⟨by rw [hz]; show H.size + 1 + 1 = bi_nx h + 1; omega, by omega, fun q hq => by rw [ho q (by omega)]; exact z3 q hq⟩, h2, h3, by rw [e0 0 (by omega)]; exact h4, fun b hb => ?_, fun b => ?_⟩
  · by_cases e : b = H.size
    · subst e
      exact ⟨by omega, fun _ => z2⟩
    · rw [e0 _ (by omega)] at hb ⊢
      obtain ⟨q1, q2⟩ := h5 b hb
      exact ⟨by omega, q2⟩
  · by_cases e : b = H.size
    · subst e
      exact hc
    · have e1 := e0 (b + 1) (by omega)
      by_cases hb : (bi_k h (b + 1)).1 = 0
      · exact bi_cell.none (by rw [e1]; exact hb)
      · have hx : b + 1 ≠ bi_nx h := by omega
        refine (h6 b).kept (ho b (h5 b hb).1) e1 (fun c k => ?_) (fun t j => ?_)
        · simp [bi_fv, bi_fr, bi_fi, bi_new, hx]
        · simp [bi_av, bi_ar, bi_ai, bi_new, hx]
/-- the pool entry of a field -/
def bi_fl (own : String) (index : Nat) (q : vw_C) (k : Nat) : Prop := Cond.fieldLink own index (q.2.1 k).1 (q.2.1 k).2.1 (q.2.1 k).2.2.1 ∈ lw_tbl ∨ ∃ host, Cond.fieldLinkNest own index (q.2.1 k).1 (q.2.1 k).2.1 (q.2.1 k).2.2.1 host ∈ lw_tbl
section BS
variable {p : Program} {l : Launch} {e : Env} {R : Room} {s : State} {m : MethodId} {args : Array Value} {below : List Frame} {meth : Method} {cd : Code} {H : Heap} {locs : List Loc} {cells slots : Nat} {Q : State → Prop} {cc : ByteArray} {pc : Nat} {ls : Array Slot} {rest : List Value} {D : va_G} {B0 : Nat} {Hb : Heap} {h : bi_H}
theorem bi_hts (hr : bi_rp D B0 Hb h s H) {w : Cond} (hw : w ∈ lw_tbl) (ho : bi_ok w = true) : w.before args s = true := hr.2.2.1.1 w hw ho args
theorem bi_get (hx : p.tables.exec = Jvm.exec) (hb : cd.code = cc) {own : String} {index a c k : Nat} {q : vw_C} (hown : s.vm.findClass own = some m.cls) (hr : bi_rp D B0 Hb h s H) (hk : (bi_k h (a + 1)).1 = 10 + c) (hq : vwCl[c]? = some q) (hkn : k < q.2.2) (hl : bi_fl own index q k) (hdg : decode cc pc = .ok (.getfield index, 3))
    (kk : W p l e R s m args below meth cd H locs cells slots Q (F0 m (pc + 3) ls (bi_fv h c k (a + 1) :: rest))) : W p l e R s m args below meth cd H locs cells slots Q (F0 m pc ls (.ref a :: rest)) := by
  obtain ⟨q', hq', cell, q1, q2, q3, q4⟩ := (hr.2.2.2.2.2 a).1 c hk (bi_c13 hq)
  cases Option.some.inj (hq'.symm.trans hq)
  obtain ⟨hS, hfc, kC, hkC, hkind⟩ := hr.2.1.1 c _ hq
  obtain ⟨cf, kf, fi, f, hi, hsl⟩ := hS k hkn
  have hts : ∀ w ∈ u_ws q.1 q.2.1 q.2.2, w.before args s = true := fun w hw => bi_hts hr ((bi_cok_of c q hq).1 w hw) (bi_lay_ok w hw)
  have hst := (u_facts hfc hkC (u_lays hts (fun _ z => z) hkn) hi).1
  have hv : cell.slots[f.slot]? = some (bi_fv h c k (a + 1)) := by rw [hsl, q4 k hkn]
  rcases hl with hl | ⟨host, hl⟩
  · exact W.getf hx hb hown (bi_hts hr hl rfl) hi hst q1 (by rw [q3]; exact fun z => by cases z) hv rfl rfl hdg kk
  · exact va_Wgetf hx hb hown (bi_hts hr hl rfl) hi hst q1 (by rw [q3]; exact fun z => by cases z) hv rfl rfl hdg kk
/-- a field is written: v, of the right kind; the interpreter's heap is h' then -/
theorem bi_put (hx : p.tables.exec = Jvm.exec) (hb : cd.code = cc) {own : String} {index a c k : Nat} {q : vw_C} {v : Value} {h' : bi_H} (hown : s.vm.findClass own = some m.cls) (hr : bi_rp D B0 Hb h s H) (hk : (bi_k h (a + 1)).1 = 10 + c) (hq : vwCl[c]? = some q) (hkn : k < q.2.2) (hl : bi_fl own index q k) (hfin : (q.2.1 k).2.2.2 = false ∨ ((q.2.1 k).1 = own ∧ meth.name = "<init>" ∧ Cond.fieldLink own index (q.2.1 k).1 (q.2.1 k).2.1 (q.2.1 k).2.2.1 ∈ lw_tbl)) (hn : narrow (bi_ty c k) v = v ∧ fits (bi_ty c k) v = true)
    (hk' : ∀ x, bi_k h' x = bi_k h x) (hnx : bi_nx h' = bi_nx h) (hf : ∀ c k b, b ≠ a → bi_fv h' c k (b + 1) = bi_fv h c k (b + 1)) (hf2 : ∀ j, bi_fv h' c j (a + 1) = updV (fun j => bi_fv h c j (a + 1)) k v j) (hv : ∀ t b j, b ≠ a → bi_av h' t (b + 1) j = bi_av h t (b + 1) j) (hdg : decode cc pc = .ok (.putfield index, 3))
    (kk : ∀ (H' : Heap) (i : Nat), bi_rp D B0 Hb h' s H' → W p l e R s m args below meth cd H' (locs ++ [⟨a, i⟩]) cells slots Q (F0 m (pc + 3) ls rest)) : W p l e R s m args below meth cd H locs cells slots Q (F0 m pc ls (v :: .ref a :: rest)) := by
  have h13 := bi_c13 hq
  obtain ⟨q', hq', cell, q1, q2, q3, q4⟩ := (hr.2.2.2.2.2 a).1 c hk h13
  cases Option.some.inj (hq'.symm.trans hq)
  obtain ⟨hin, hty, hnm⟩ := bi_cok_of c q hq
  obtain ⟨hS, hfc, kC, hkC, hkind⟩ := hr.2.1.1 c _ hq
  obtain ⟨cf, kf, fi, f, hi, hsl⟩ := hS k hkn
  have hts : ∀ w ∈ u_ws q.1 q.2.1 q.2.2, w.before args s = true := fun w hw => bi_hts hr (hin w hw) (bi_lay_ok w hw)
  have hap := va_apart (own := own) hts (fun _ z => z) (bi_ty c) hty hnm hr.2.1 (ci := c) hq
  have hst := (u_facts hfc hkC (u_lays hts (fun _ z => z) hkn) hi).1
  have hB : B0 ≤ a := (hr.2.2.2.2.1 a (by omega)).2 (by omega)
  have fin : ∀ H' : Heap, H'[a]? = some (cell.setSlot f.slot v) → H'.size = H.size → (∀ q, q ≠ a → H'[q]? = H[q]?) → bi_rp D B0 Hb h' s H' := by
    intro H' e1 e2 e3
    refine hr.upd hB e2 e3 hk' hnx hf hv ⟨fun c0 h1 _ => ?_, fun ty hty => ?_⟩
    · rw [hk', hk] at h1
      have : c0 = c := by omega
      subst this
      rw [hsl] at e1
      exact ⟨q, hq, t_OB.to (V := updV (fun j => bi_fv h c0 j (a + 1)) k v) ⟨_, e1, q2, q3, t_set q4 hap hkn v⟩ (fun j _ => (hf2 j).symm)⟩
    · rw [hk', hk, bi_aty_obj h13] at hty
      cases hty
  have hlay := hts _ (u_in_lay hkn)
  unfold u_lay at hlay
  have hlt : f.slot < cell.slots.size := by rw [hsl]; exact k2_hasslot (q4 k hkn)
  by_cases hff : (q.2.1 k).2.2.2 = true
  · rw [if_pos hff] at hlay
    rcases hfin with hz | ⟨hdecl, hin2, hlk⟩
    · rw [hz] at hff
      cases hff
    · have hcf : m.cls = cf := by
        obtain ⟨_, _, c', _, _, _, -, -, hf', -, -, -, hown2, -⟩ := Cond.laysFinal_spec hlay
        have e1 : c' = cf := by have := hi.symm.trans hf'; simp at this; exact this.1.symm
        rw [hdecl] at hown2
        rw [← e1]; exact Option.some.inj (hown.symm.trans hown2)
      have h6 := u_fits hfc hkC hkind (Or.inr hlay) hi (hty k hkn) hn.1 hn.2
      exact W.putFinK hx hb hown (bi_hts hr hlk rfl) hi hst hcf hin2 (by rw [q2]; exact h6) q1 q3 hlt rfl rfl hdg fun H' e1 e2 e3 => kk H' _ (fin H' e1 e2 e3)
  · rw [if_neg hff] at hlay
    have h6 := u_store hfc hkC hkind hlay hi (hty k hkn) hn.1 hn.2
    rcases hl with hl | ⟨host, hl⟩
    · exact W.putK hx hb (f := f) ⟨hown, bi_hts hr hl rfl, ⟨_, _, _, hi⟩, hst⟩ (by rw [q2]; exact h6) q1 q3 hlt rfl rfl hdg fun H' e1 e2 e3 => kk H' _ (fin H' e1 e2 e3)
    · exact va_WputK hx hb hown (bi_hts hr hl rfl) hi hst (by rw [q2]; exact h6) q1 q3 hlt rfl rfl hdg fun H' e1 e2 e3 => kk H' _ (fin H' e1 e2 e3)
end BS
