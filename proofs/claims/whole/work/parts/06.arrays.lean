/-! arrays and new cells over the interpreter's heap -/
theorem bi_rp.arr {D : va_G} {B0 : Nat} {Hb : Heap} {s : State} {h h' : bi_H} {H H' : Heap} {a t n j : Nat} {ty : FieldType} {nv : Value} {cell : Cell} (hr : bi_rp D B0 Hb h s H) (hk : bi_k h (a + 1) = (t, n)) (hty : bi_aty t = some ty) (ht4 : t ≠ 4) (hj : j < n)
    (c1 : s.isArrayOf cell ty) (c2 : cell.vm ≠ .unknown) (c3 : cell.slots.size = n) (c4 : ∀ j, j < n → cell.slots[j]? = some (bi_av h t (a + 1) j)) (c5 : ∀ C, ty = .object C → ∃ (kA : Class) (comp : ClassId), s.vm.classes[cell.cls]? = some kA ∧ kA.kind = .array comp (.object C) ∧ s.vm.findClass C = some comp)
    (e1 : H'[a]? = some (cell.setSlot j nv)) (e2 : H'.size = H.size) (e3 : ∀ q, q ≠ a → H'[q]? = H[q]?)
    (hk' : ∀ x, bi_k h' x = bi_k h x) (hnx : bi_nx h' = bi_nx h) (hf : ∀ c k b, bi_fv h' c k b = bi_fv h c k b) (hv : ∀ t b j, b ≠ a → bi_av h' t (b + 1) j = bi_av h t (b + 1) j) (hv2 : ∀ i, bi_av h' t (a + 1) i = updV (fun i => bi_av h t (a + 1) i) j nv i) : bi_rp D B0 Hb h' s H' := by
  have ht0 : t ≠ 0 := fun z => by subst z; simp [bi_aty] at hty
  have hB : B0 ≤ a := (hr.2.2.2.2.1 a (by rw [hk]; exact ht0)).2 (by rw [hk]; exact ht4)
  refine hr.upd hB e2 e3 hk' hnx (fun c k b _ => hf c k (b + 1)) hv ⟨fun c0 h1 h2 => ?_, fun ty' hty' => ?_⟩
  · rw [hk', hk] at h1
    have h1 : t = 10 + c0 := h1
    rw [h1, bi_aty_obj h2] at hty
    cases hty
  · rw [hk', hk] at hty' ⊢
    have hty' : bi_aty t = some ty' := hty'
    cases Option.some.inj (hty.symm.trans hty')
    refine ⟨_, e1, c1, c2, by rw [k2_slotsz]; exact c3, fun i hi => ?_, c5⟩
    show (cell.setSlot j nv).slots[i]? = some (bi_av h' t (a + 1) i)
    rw [hv2 i]
    by_cases e : i = j
    · subst e
      rw [Cell.slots_setSlot_self _ (by rw [c3]; exact hj)]
      simp [updV]
    · rw [slot_ne _ _ (Ne.symm e), c4 i hi]
      simp [updV, e]
section BA
variable {p : Program} {l : Launch} {e : Env} {R : Room} {s : State} {m : MethodId} {args : Array Value} {below : List Frame} {meth : Method} {cd : Code} {H : Heap} {locs : List Loc} {cells slots : Nat} {Q : State → Prop} {cc : ByteArray} {pc : Nat} {ls : Array Slot} {rest : List Value} {D : va_G} {B0 : Nat} {Hb : Heap} {h : bi_H}
theorem bi_ne {j : Int32} {n : Nat} (h0 : ¬ j < 0) (h1 : j.toNatClampNeg < n) : ¬ (j < 0 ∨ n ≤ j.toNatClampNeg) := fun z => z.elim h0 (fun q => by omega)
theorem bi_iald (hx : p.tables.exec = Jvm.exec) (hb : cd.code = cc) {a : Nat} {j : Int32} (hr : bi_rp D B0 Hb h s H) (hk : (bi_k h (a + 1)).1 = 1 ∨ (bi_k h (a + 1)).1 = 4) (h0 : ¬ j < 0) (h1 : j.toNatClampNeg < (bi_k h (a + 1)).2) (hdg : decode cc pc = .ok (.iaload, 1))
    (kk : W p l e R s m args below meth cd H locs cells slots Q (F0 m (pc + 1) ls (.int (bi_ai h (a + 1) j.toNatClampNeg) :: rest))) : W p l e R s m args below meth cd H locs cells slots Q (F0 m pc ls (.int j :: .ref a :: rest)) := by
  obtain ⟨cell, c0, c1, c2, c3, c4, -⟩ := (hr.2.2.2.2.2 a).2 .int (by unfold bi_aty; rw [if_pos hk])
  refine W.iald hx hb c0 c1 c2 (by rw [c3]; exact bi_ne h0 h1) (v := .int (bi_ai h (a + 1) j.toNatClampNeg)) ?_ rfl rfl hdg kk
  rw [c4 _ h1]
  rcases hk with hk | hk <;> simp [bi_av, hk]
theorem bi_zald (hx : p.tables.exec = Jvm.exec) (hb : cd.code = cc) {a : Nat} {j : Int32} (hr : bi_rp D B0 Hb h s H) (hk : (bi_k h (a + 1)).1 = 2) (h0 : ¬ j < 0) (h1 : j.toNatClampNeg < (bi_k h (a + 1)).2) (hdg : decode cc pc = .ok (.baload, 1))
    (kk : W p l e R s m args below meth cd H locs cells slots Q (F0 m (pc + 1) ls (.int (bi_ai h (a + 1) j.toNatClampNeg) :: rest))) : W p l e R s m args below meth cd H locs cells slots Q (F0 m pc ls (.int j :: .ref a :: rest)) := by
  obtain ⟨cell, c0, c1, c2, c3, c4, -⟩ := (hr.2.2.2.2.2 a).2 .boolean (by simp [bi_aty, hk])
  refine W.zald hx hb c0 c1 c2 (by rw [c3]; exact bi_ne h0 h1) (v := .int (bi_ai h (a + 1) j.toNatClampNeg)) ?_ rfl rfl hdg kk
  rw [c4 _ h1]
  simp [bi_av, hk]
theorem bi_lald (hx : p.tables.exec = Jvm.exec) (hb : cd.code = cc) {a : Nat} {j : Int32} (hr : bi_rp D B0 Hb h s H) (hk : (bi_k h (a + 1)).1 = 3) (h0 : ¬ j < 0) (h1 : j.toNatClampNeg < (bi_k h (a + 1)).2) (hdg : decode cc pc = .ok (.laload, 1))
    (kk : W p l e R s m args below meth cd H locs cells slots Q (F0 m (pc + 1) ls (.long (bi_ai h (a + 1) j.toNatClampNeg).toInt64 :: rest))) : W p l e R s m args below meth cd H locs cells slots Q (F0 m pc ls (.int j :: .ref a :: rest)) := by
  obtain ⟨cell, c0, c1, c2, c3, c4, -⟩ := (hr.2.2.2.2.2 a).2 .long (by simp [bi_aty, hk])
  refine W.lald hx hb c0 c1 c2 (by rw [c3]; exact bi_ne h0 h1) (v := .long (bi_ai h (a + 1) j.toNatClampNeg).toInt64) ?_ rfl rfl hdg kk
  rw [c4 _ h1]
  simp [bi_av, hk]
theorem bi_aald (hx : p.tables.exec = Jvm.exec) (hb : cd.code = cc) {a : Nat} {j : Int32} {ty : FieldType} (hr : bi_rp D B0 Hb h s H) (hk : (bi_k h (a + 1)).1 = 5 ∨ 40 ≤ (bi_k h (a + 1)).1) (hty : bi_aty (bi_k h (a + 1)).1 = some ty) (h0 : ¬ j < 0) (h1 : j.toNatClampNeg < (bi_k h (a + 1)).2) (hdg : decode cc pc = .ok (.aaload, 1))
    (kk : W p l e R s m args below meth cd H locs cells slots Q (F0 m (pc + 1) ls (bi_tr (bi_ar h (a + 1) j.toNatClampNeg) :: rest))) : W p l e R s m args below meth cd H locs cells slots Q (F0 m pc ls (.int j :: .ref a :: rest)) := by
  obtain ⟨cell, c0, c1, c2, c3, c4, -⟩ := (hr.2.2.2.2.2 a).2 ty hty
  have href : ty.isReference = true := by
    rcases hk with hk | hk
    · rw [hk] at hty
      simp [bi_aty] at hty
      subst hty
      rfl
    · unfold bi_aty at hty
      rw [if_neg (by omega), if_neg (by omega), if_neg (by omega), if_neg (by omega), if_pos hk] at hty
      obtain ⟨q, -, rfl⟩ := Option.map_eq_some_iff.mp hty
      rfl
  refine W.aald hx hb c0 c1 href c2 (by rw [c3]; exact bi_ne h0 h1) (v := bi_tr (bi_ar h (a + 1) j.toNatClampNeg)) ?_ rfl rfl hdg kk
  rw [c4 _ h1]
  have h3 : ¬ (bi_k h (a + 1)).1 = 3 := by omega
  simp [bi_av, h3, hk]
theorem bi_alen (hx : p.tables.exec = Jvm.exec) (hb : cd.code = cc) {a : Nat} {ty : FieldType} (hr : bi_rp D B0 Hb h s H) (hty : bi_aty (bi_k h (a + 1)).1 = some ty) (hdg : decode cc pc = .ok (.arraylength, 1))
    (kk : W p l e R s m args below meth cd H locs cells slots Q (F0 m (pc + 1) ls (.int (Int32.ofNat (bi_k h (a + 1)).2) :: rest))) : W p l e R s m args below meth cd H locs cells slots Q (F0 m pc ls (.ref a :: rest)) := by
  obtain ⟨cell, c0, c1, c2, c3, c4, -⟩ := (hr.2.2.2.2.2 a).2 ty hty
  exact W.alen (n := Int32.ofNat (bi_k h (a + 1)).2) hx hb c0 c1 (by rw [c3]) rfl rfl hdg kk
theorem bi_sai_fv {a i : Nat} {x : Int32} (c k b : Nat) : bi_fv (bi_sai h a i x) c k b = bi_fv h c k b := rfl
theorem bi_sai_av {a i : Nat} {x : Int32} (t b j : Nat) (hb : b ≠ a) : bi_av (bi_sai h (a + 1) i x) t (b + 1) j = bi_av h t (b + 1) j := by
  simp [bi_av, bi_ai, bi_ar, bi_sai, hb]
theorem bi_iast (hx : p.tables.exec = Jvm.exec) (hb : cd.code = cc) {a : Nat} {j x : Int32} (hr : bi_rp D B0 Hb h s H) (hk : (bi_k h (a + 1)).1 = 1) (h0 : ¬ j < 0) (h1 : j.toNatClampNeg < (bi_k h (a + 1)).2) (hdg : decode cc pc = .ok (.iastore, 1))
    (kk : ∀ (H' : Heap) (i : Nat), bi_rp D B0 Hb (bi_sai h (a + 1) j.toNatClampNeg x) s H' → W p l e R s m args below meth cd H' (locs ++ [⟨a, i⟩]) cells slots Q (F0 m (pc + 1) ls rest)) : W p l e R s m args below meth cd H locs cells slots Q (F0 m pc ls (.int x :: .int j :: .ref a :: rest)) := by
  have hty : bi_aty (bi_k h (a + 1)).1 = some .int := by simp [bi_aty, hk]
  obtain ⟨cell, c0, c1, c2, c3, c4, c5⟩ := (hr.2.2.2.2.2 a).2 .int hty
  refine W.iast hx hb c0 c1 c2 (by rw [c3]; exact bi_ne h0 h1) rfl rfl hdg (fun H' e1 e2 e3 => kk H' _ ?_)
  rw [hk] at c4
  refine hr.arr (t := 1) (n := (bi_k h (a + 1)).2) (Prod.ext hk rfl) rfl (by omega) h1 c1 c2 c3 c4 c5 e1 e2 e3 (fun _ => rfl) rfl bi_sai_fv bi_sai_av (fun i => ?_)
  by_cases e : i = j.toNatClampNeg <;> simp [bi_av, updV, bi_ai, bi_sai, e]
theorem bi_zast (hx : p.tables.exec = Jvm.exec) (hb : cd.code = cc) {a : Nat} {j x : Int32} (hr : bi_rp D B0 Hb h s H) (hk : (bi_k h (a + 1)).1 = 2) (hx01 : x = 0 ∨ x = 1) (h0 : ¬ j < 0) (h1 : j.toNatClampNeg < (bi_k h (a + 1)).2) (hdg : decode cc pc = .ok (.bastore, 1))
    (kk : ∀ (H' : Heap) (i : Nat), bi_rp D B0 Hb (bi_sai h (a + 1) j.toNatClampNeg x) s H' → W p l e R s m args below meth cd H' (locs ++ [⟨a, i⟩]) cells slots Q (F0 m (pc + 1) ls rest)) : W p l e R s m args below meth cd H locs cells slots Q (F0 m pc ls (.int x :: .int j :: .ref a :: rest)) := by
  have hty : bi_aty (bi_k h (a + 1)).1 = some .boolean := by simp [bi_aty, hk]
  obtain ⟨cell, c0, c1, c2, c3, c4, c5⟩ := (hr.2.2.2.2.2 a).2 .boolean hty
  have hnz : vp_nar .boolean x = x := by rcases hx01 with rfl | rfl <;> decide +kernel
  refine W.zast hx hb c0 c1 c2 (by rw [c3]; exact bi_ne h0 h1) rfl rfl hdg (fun H' e1 e2 e3 => kk H' _ ?_)
  rw [hk] at c4
  refine hr.arr (t := 2) (n := (bi_k h (a + 1)).2) (nv := .int x) (Prod.ext hk rfl) rfl (by omega) h1 c1 c2 c3 c4 c5 ?_ e2 e3 (fun _ => rfl) rfl bi_sai_fv bi_sai_av (fun i => ?_)
  · rw [e1, (bi_nar_z hx01).1]
  · by_cases e : i = j.toNatClampNeg <;> simp [bi_av, updV, bi_ai, bi_sai, e]
theorem bi_last (hx : p.tables.exec = Jvm.exec) (hb : cd.code = cc) {a : Nat} {j x : Int32} (hr : bi_rp D B0 Hb h s H) (hk : (bi_k h (a + 1)).1 = 3) (h0 : ¬ j < 0) (h1 : j.toNatClampNeg < (bi_k h (a + 1)).2) (hdg : decode cc pc = .ok (.lastore, 1))
    (kk : ∀ (H' : Heap) (i : Nat), bi_rp D B0 Hb (bi_sai h (a + 1) j.toNatClampNeg x) s H' → W p l e R s m args below meth cd H' (locs ++ [⟨a, i⟩]) cells slots Q (F0 m (pc + 1) ls rest)) : W p l e R s m args below meth cd H locs cells slots Q (F0 m pc ls (.long x.toInt64 :: .int j :: .ref a :: rest)) := by
  have hty : bi_aty (bi_k h (a + 1)).1 = some .long := by simp [bi_aty, hk]
  obtain ⟨cell, c0, c1, c2, c3, c4, c5⟩ := (hr.2.2.2.2.2 a).2 .long hty
  refine W.last hx hb c0 c1 c2 (by rw [c3]; exact bi_ne h0 h1) rfl rfl hdg (fun H' e1 e2 e3 => kk H' _ ?_)
  rw [hk] at c4
  refine hr.arr (t := 3) (n := (bi_k h (a + 1)).2) (Prod.ext hk rfl) rfl (by omega) h1 c1 c2 c3 c4 c5 e1 e2 e3 (fun _ => rfl) rfl bi_sai_fv bi_sai_av (fun i => ?_)
  by_cases e : i = j.toNatClampNeg <;> simp [bi_av, updV, bi_ai, bi_sai, e]
theorem bi_aast (hx : p.tables.exec = Jvm.exec) (hb : cd.code = cc) {a b c : Nat} {j : Int32} {q : vw_C} (hr : bi_rp D B0 Hb h s H) (hk : (bi_k h (a + 1)).1 = 40 + c) (hq : vwCl[c]? = some q) (hbk : b = 0 ∨ (bi_k h b).1 = 10 + c) (h0 : ¬ j < 0) (h1 : j.toNatClampNeg < (bi_k h (a + 1)).2) (hdg : decode cc pc = .ok (.aastore, 1))
    (kk : ∀ (H' : Heap) (i : Nat), bi_rp D B0 Hb (bi_sar h (a + 1) j.toNatClampNeg b) s H' → W p l e R s m args below meth cd H' (locs ++ [⟨a, i⟩]) cells slots Q (F0 m (pc + 1) ls rest)) : W p l e R s m args below meth cd H locs cells slots Q (F0 m pc ls (bi_tr b :: .int j :: .ref a :: rest)) := by
  have h13 := bi_c13 hq
  have hty : bi_aty (bi_k h (a + 1)).1 = some (.object q.1) := by
    unfold bi_aty
    rw [hk, if_neg (by omega), if_neg (by omega), if_neg (by omega), if_neg (by omega), if_pos (by omega), show 40 + c - 40 = c by omega, hq]
    rfl
  obtain ⟨cell, c0, c1, c2, c3, c4, c5⟩ := (hr.2.2.2.2.2 a).2 _ hty
  have fin : ∀ H' : Heap, H'[a]? = some (cell.setSlot j.toNatClampNeg (bi_tr b)) → H'.size = H.size → (∀ q, q ≠ a → H'[q]? = H[q]?) → bi_rp D B0 Hb (bi_sar h (a + 1) j.toNatClampNeg b) s H' := by
    intro H' e1 e2 e3
    rw [hk] at c4 hty
    refine hr.arr (t := 40 + c) (n := (bi_k h (a + 1)).2) (Prod.ext hk rfl) hty (by omega) h1 c1 c2 c3 c4 c5 e1 e2 e3 (fun _ => rfl) rfl (fun _ _ _ => rfl) (fun t b' j' hb' => ?_) (fun i => ?_)
    · simp [bi_av, bi_ai, bi_ar, bi_sar, hb']
    · have h3 : ¬ 40 + c = 3 := by omega
      have h40 : 40 ≤ 40 + c := by omega
      by_cases e : i = j.toNatClampNeg <;> simp [bi_av, h3, h40, updV, bi_ar, bi_sar, e]
  cases b with
  | zero => exact va_WaastN (C := q.1) hx hb c0 c1 c2 (by rw [c3]; exact bi_ne h0 h1) rfl rfl hdg (fun H' e1 e2 e3 => kk H' _ (fin H' e1 e2 e3))
  | succ b =>
    have hbk : (bi_k h (b + 1)).1 = 10 + c := by
      rcases hbk with z | z
      · omega
      · exact z
    obtain ⟨q', hq', cv, g1, g2, g3, -⟩ := (hr.2.2.2.2.2 b).1 c hbk h13
    cases Option.some.inj (hq'.symm.trans hq)
    obtain ⟨kA, comp, k1, k2, k3⟩ := c5 q.1 rfl
    have hcls := (hr.2.1.1 c q hq).2
    have hcomp : comp = D.1 c := Option.some.inj (k3.symm.trans hcls.1)
    subst hcomp
    obtain ⟨kC, hkC, -⟩ := hcls.2
    exact W.aast hx hb c0 c1.1 c2 k1 k2 rfl hkC ⟨h0, by rw [c3]; exact h1⟩ g1 (fun z hz => by rw [g3] at hz; cases hz) (by rw [g2]; exact hkC) (by rw [g2]; exact va_assign hcls) rfl rfl hdg (fun H' e1 e2 e3 => kk H' _ (fin H' e1 e2 e3))
end BA
