/-! new objects and arrays over the interpreter's heap -/
theorem bi_dflt : ∀ c, c < 13 → ∀ k, k < 39 → (if bi_ft c k = 1 then Value.null else Value.int 0) = defaultValue (bi_ty c k) := by decide +kernel
theorem bi_n39 : ∀ (c : Nat) (q : vw_C), vwCl[c]? = some q → q.2.2 ≤ 39
  | 0, _, h => by cases h; decide
  | 1, _, h => by cases h; decide
  | 2, _, h => by cases h; decide
  | 3, _, h => by cases h; decide
  | 4, _, h => by cases h; decide
  | 5, _, h => by cases h; decide
  | 6, _, h => by cases h; decide
  | 7, _, h => by cases h; decide
  | 8, _, h => by cases h; decide
  | 9, _, h => by cases h; decide
  | 10, _, h => by cases h; decide
  | 11, _, h => by cases h; decide
  | 12, _, h => by cases h; decide
  | c + 13, _, h => by simp at h
section BN
variable {p : Program} {l : Launch} {e : Env} {R : Room} {s : State} {m : MethodId} {args : Array Value} {below : List Frame} {meth : Method} {cd : Code} {H : Heap} {locs : List Loc} {cells slots : Nat} {Q : State → Prop} {cc : ByteArray} {pc : Nat} {ls : Array Slot} {rest : List Value} {D : va_G} {B0 : Nat} {Hb : Heap} {h : bi_H}
theorem bi_nxr (hr : bi_rp D B0 Hb h s H) : bi_tr (bi_nx h) = .ref H.size := by rw [← hr.1.1]; rfl
theorem bi_new_k {kd : Nat × Nat} {sl a : Nat} (ha : a = bi_nx h) : bi_k (bi_new h kd sl) a = kd := by simp [bi_k, bi_new, ha]
theorem bi_new_fv {kd : Nat × Nat} {sl a : Nat} (ha : a = bi_nx h) (c k : Nat) : bi_fv (bi_new h kd sl) c k a = (if bi_ft c k = 1 then Value.null else Value.int 0) := by
  simp [bi_fv, bi_fr, bi_fi, bi_new, ha, bi_tr]
theorem bi_newc (hx : p.tables.exec = Jvm.exec) (hb : cd.code = cc) {own : String} {index c : Nat} {q : vw_C} (hown : s.vm.findClass own = some m.cls) (hr : bi_rp D B0 Hb h s H) (hq : vwCl[c]? = some q) (hcl : Cond.classLink own index q.1 ∈ lw_tbl) (hin : Cond.instantiable q.1 q.2.2 ∈ lw_tbl) (hini : Cond.initialized q.1 ∈ lw_tbl) (hdg : decode cc pc = .ok (.new index, 3)) (hcells : cells + 1 ≤ R.cells) (hslots : slots + q.2.2 ≤ R.slots)
    (kk : ∀ H' : Heap, bi_rp D B0 Hb (bi_new h (10 + c, 0) q.2.2) s H' → W p l e R s m args below meth cd H' locs (cells + 1) (slots + q.2.2) Q (F0 m (pc + 3) ls (bi_tr (bi_nx h) :: rest))) : W p l e R s m args below meth cd H locs cells slots Q (F0 m pc ls rest) := by
  have h13 := bi_c13 hq
  have hKn := hr.2.1.1 c _ hq
  have hts : ∀ w ∈ u_ws q.1 q.2.1 q.2.2, w.before args s = true := fun w hw => bi_hts hr ((bi_cok_of c q hq).1 w hw) (bi_lay_ok w hw)
  refine W.newcK hx hb hown (bi_hts hr hcl rfl) (bi_hts hr hin rfl) (bi_hts hr hini rfl) rfl hdg hcells hslots hKn.2.1 rfl fun H' kC hkC e1 z1 o1 => ?_
  have hs : H.size + 1 = bi_nx h := hr.1.1
  rw [bi_nxr hr] at kk
  refine kk H' (hr.born z1 o1 ⟨fun c0 h1 _ => ?_, fun ty hty => ?_⟩)
  · rw [bi_new_k hs] at h1
    have : c0 = c := by simp at h1; omega
    subst this
    refine ⟨q, hq, (u_born (bi_ty c0) hts (fun _ z => z) hKn hkC e1 (bi_cok_of c0 q hq).2.1).to (fun k hk => ?_)⟩
    rw [bi_new_fv hs, bi_dflt c0 h13 k (Nat.lt_of_lt_of_le hk (bi_n39 c0 q hq))]
  · rw [bi_new_k hs] at hty
    have hty : bi_aty (10 + c) = some ty := hty
    rw [bi_aty_obj h13] at hty
    cases hty
theorem bi_newa (hx : p.tables.exec = Jvm.exec) (hb : cd.code = cc) {at0 : ArrayType} {t : Nat} {n : Int32} (hr : bi_rp D B0 Hb h s H) (ht : (at0 = .int ∧ t = 1) ∨ (at0 = .boolean ∧ t = 2) ∨ (at0 = .long ∧ t = 3)) (hw : Cond.arrayClass (newarray.typeOf at0) ∈ lw_tbl) (hn : ¬ n < 0) (hle : n.toNatClampNeg ≤ 1000000) (hdg : decode cc pc = .ok (.newarray at0, 2)) (hcells : cells + 1 ≤ R.cells) (hslots : slots + n.toNatClampNeg ≤ R.slots)
    (kk : ∀ H' : Heap, bi_rp D B0 Hb (bi_new h (t, n.toNatClampNeg) n.toNatClampNeg) s H' → W p l e R s m args below meth cd H' locs (cells + 1) (slots + n.toNatClampNeg) Q (F0 m (pc + 2) ls (bi_tr (bi_nx h) :: rest))) : W p l e R s m args below meth cd H locs cells slots Q (F0 m pc ls (.int n :: rest)) := by
  have hs : H.size + 1 = bi_nx h := hr.1.1
  rw [bi_nxr hr] at kk
  have hby : n.toNatClampNeg * componentBytes (newarray.typeOf at0) ≤ 536870912 := by
    rcases ht with ⟨rfl, -⟩ | ⟨rfl, -⟩ | ⟨rfl, -⟩ <;> simp [newarray.typeOf, componentBytes] <;> omega
  refine va_newaK hx hb (bi_hts hr hw rfl) rfl hdg rfl hn rfl hby hcells hslots rfl fun H' cA e1 z1 o1 hAr hNm => ?_
  refine kk H' (hr.born z1 o1 ⟨fun c0 h1 h2 => ?_, fun ty hty => ?_⟩)
  · rw [bi_new_k hs] at h1
    have h1 : t = 10 + c0 := h1
    omega
  · rw [bi_new_k hs] at hty ⊢
    have hty : bi_aty t = some ty := hty
    have hte : ty = newarray.typeOf at0 := by
      rcases ht with ⟨rfl, rfl⟩ | ⟨rfl, rfl⟩ | ⟨rfl, rfl⟩ <;> (simp [bi_aty] at hty; subst hty; rfl)
    subst hte
    refine ⟨_, e1, hAr _ _, (fun z => by cases z), arrV_size _ _ _, fun j hj => ?_, fun C hC => ?_⟩
    · rw [arrV_read _ _ hj]
      rcases ht with ⟨rfl, rfl⟩ | ⟨rfl, rfl⟩ | ⟨rfl, rfl⟩ <;> (simp [bi_av, bi_ai, bi_new, hs, newarray.typeOf, defaultValue] <;> rfl)
    · rcases ht with ⟨rfl, rfl⟩ | ⟨rfl, rfl⟩ | ⟨rfl, rfl⟩ <;> cases hC
theorem bi_anew (hx : p.tables.exec = Jvm.exec) (hb : cd.code = cc) {own : String} {index c : Nat} {q : vw_C} {n : Int32} (hown : s.vm.findClass own = some m.cls) (hr : bi_rp D B0 Hb h s H) (hq : vwCl[c]? = some q) (hcl : Cond.classLink own index q.1 ∈ lw_tbl) (hov : Cond.arrayOver (.object q.1) ∈ lw_tbl) (hn : ¬ n < 0) (hle : n.toNatClampNeg ≤ 1000000) (hdg : decode cc pc = .ok (.anewarray index, 3)) (hcells : cells + 1 ≤ R.cells) (hslots : slots + n.toNatClampNeg ≤ R.slots)
    (kk : ∀ H' : Heap, bi_rp D B0 Hb (bi_new h (40 + c, n.toNatClampNeg) n.toNatClampNeg) s H' → W p l e R s m args below meth cd H' locs (cells + 1) (slots + n.toNatClampNeg) Q (F0 m (pc + 3) ls (bi_tr (bi_nx h) :: rest))) : W p l e R s m args below meth cd H locs cells slots Q (F0 m pc ls (.int n :: rest)) := by
  have h13 := bi_c13 hq
  have hs : H.size + 1 = bi_nx h := hr.1.1
  rw [bi_nxr hr] at kk
  refine W.anew hx hb hown (bi_hts hr hcl rfl) (bi_hts hr hov rfl) rfl hdg rfl hn (by omega) hcells hslots fun cA kA comp h1 h2 h3 h4 => ?_
  have hAr : ArrOfT s cA (.object q.1) := fun n z => ⟨fun k h => (by cases h), kA, h2, comp, h3⟩
  rw [arrV_new]
  refine kk _ (hr.born (by simp) (fun x hx => by rw [Array.getElem?_push, if_neg (Nat.ne_of_lt hx)]) ⟨fun c0 g1 g2 => ?_, fun ty hty => ?_⟩)
  · rw [bi_new_k hs] at g1
    have g1 : 40 + c = 10 + c0 := g1
    omega
  · rw [bi_new_k hs] at hty ⊢
    have hty : bi_aty (40 + c) = some ty := hty
    have hte : ty = .object q.1 := by
      unfold bi_aty at hty
      rw [if_neg (by omega), if_neg (by omega), if_neg (by omega), if_neg (by omega), if_pos (by omega), show 40 + c - 40 = c by omega, hq] at hty
      exact (Option.some.inj hty).symm
    subst hte
    refine ⟨_, Array.getElem?_push_size, hAr _ _, (fun z => by cases z), arrV_size _ _ _, fun j hj => ?_, fun C hC => ?_⟩
    · rw [arrV_read _ _ hj]
      have h3 : ¬ 40 + c = 3 := by omega
      have h40 : 40 ≤ 40 + c := by omega
      simp [bi_av, h3, h40, bi_ar, bi_new, hs, bi_tr]
    · cases hC
      exact ⟨kA, comp, h2, h3, h4⟩
end BN
