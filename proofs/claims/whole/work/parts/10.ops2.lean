/-! the interpreter's straight instructions, of the machine: arrays, new cells; then all of them -/
section BZ
variable {p : Program} {l : Launch} {e : Env} {R : Room} {s : State} {m : MethodId} {args : Array Value} {below : List Frame} {meth : Method} {cd : Code} {Q : State → Prop} {D : va_G} {B0 : Nat} {Hb : Heap} {nL n0 m0 : Nat} {cc : ByteArray} {pc : Nat} {own : String} {L L' : bi_L} {st st' : List bi_V} {h h' : bi_H} {ini : Bool} {r : bi_R} {cf : Nat → List bi_V → bi_H → Option (Option bi_V × bi_H)}
theorem bi_lcs {locs : List Loc} {B0 a i : Nat} (hlc : ∀ z ∈ locs, B0 ≤ z.base) (ha : B0 ≤ a) : ∀ z ∈ locs ++ [(⟨a, i⟩ : Loc)], B0 ≤ z.base := fun z hz => by
  rcases List.mem_append.mp hz with hz | hz
  · exact hlc z hz
  · rw [List.mem_singleton.mp hz]; exact ha
theorem bi_lo {H : Heap} (hr : bi_rp D B0 Hb h s H) {b : Nat} (h0 : (bi_k h (b + 1)).1 ≠ 0) (h4 : (bi_k h (b + 1)).1 ≠ 4) : B0 ≤ b := (hr.2.2.2.2.1 b h0).2 h4
theorem bi_s_iald (hx : p.tables.exec = Jvm.exec) (hb : cd.code = cc) (hdg : decode cc pc = .ok (.iaload, 1)) (he : bi_x cf .iaload r L st h = some (L', st', h')) (kk : bi_At p l e R s m args below meth cd Q D B0 Hb nL n0 m0 (pc + 1) L' st' h') : bi_At p l e R s m args below meth cd Q D B0 Hb nL n0 m0 pc L st h := by
  intro H locs ls cells slots hr hl hw hlc hc hs
  unfold bi_x at he
  dsimp only at he
  split at he
  · split at he
    · rename_i j a st0 ha
      cases he
      obtain ⟨b, rfl⟩ := bi_kz hr (a := a) (by omega)
      exact bi_iald hx hb hr ha.1 ha.2.1 ha.2.2 hdg (kk H locs ls cells slots hr hl hw hlc hc hs)
    · cases he
  · cases he
theorem bi_s_bald (hx : p.tables.exec = Jvm.exec) (hb : cd.code = cc) (hdg : decode cc pc = .ok (.baload, 1)) (he : bi_x cf .baload r L st h = some (L', st', h')) (kk : bi_At p l e R s m args below meth cd Q D B0 Hb nL n0 m0 (pc + 1) L' st' h') : bi_At p l e R s m args below meth cd Q D B0 Hb nL n0 m0 pc L st h := by
  intro H locs ls cells slots hr hl hw hlc hc hs
  unfold bi_x at he
  dsimp only at he
  split at he
  · split at he
    · rename_i j a st0 ha
      cases he
      obtain ⟨b, rfl⟩ := bi_kz hr (a := a) (by omega)
      exact bi_zald hx hb hr ha.1 ha.2.1 ha.2.2 hdg (kk H locs ls cells slots hr hl hw hlc hc hs)
    · cases he
  · cases he
theorem bi_s_lald (hx : p.tables.exec = Jvm.exec) (hb : cd.code = cc) (hdg : decode cc pc = .ok (.laload, 1)) (he : bi_x cf .laload r L st h = some (L', st', h')) (kk : bi_At p l e R s m args below meth cd Q D B0 Hb nL n0 m0 (pc + 1) L' st' h') : bi_At p l e R s m args below meth cd Q D B0 Hb nL n0 m0 pc L st h := by
  intro H locs ls cells slots hr hl hw hlc hc hs
  unfold bi_x at he
  dsimp only at he
  split at he
  · split at he
    · rename_i j a st0 ha
      cases he
      obtain ⟨b, rfl⟩ := bi_kz hr (a := a) (by omega)
      exact bi_lald hx hb hr ha.1 ha.2.1 ha.2.2 hdg (kk H locs ls cells slots hr hl hw hlc hc hs)
    · cases he
  · cases he
theorem bi_aty_q {c : Nat} (h : c < 13) : ∃ q, vwCl[c]? = some q ∧ bi_aty (40 + c) = some (.object q.1) := by
  have hl : c < vwCl.length := h
  refine ⟨vwCl[c], List.getElem?_eq_getElem hl, ?_⟩
  unfold bi_aty
  rw [if_neg (by omega), if_neg (by omega), if_neg (by omega), if_neg (by omega), if_pos (by omega), show 40 + c - 40 = c by omega, List.getElem?_eq_getElem hl]
  rfl
theorem bi_aty_some {t : Nat} (h : (1 ≤ t ∧ t ≤ 5) ∨ (40 ≤ t ∧ t < 53)) : ∃ ty, bi_aty t = some ty := by
  rcases h with ⟨h1, h2⟩ | ⟨h1, h2⟩
  · have : t = 1 ∨ t = 2 ∨ t = 3 ∨ t = 4 ∨ t = 5 := by omega
    rcases this with rfl | rfl | rfl | rfl | rfl <;> exact ⟨_, rfl⟩
  · obtain ⟨q, -, hq⟩ := bi_aty_q (c := t - 40) (by omega)
    rw [show 40 + (t - 40) = t by omega] at hq
    exact ⟨_, hq⟩
theorem bi_s_aald (hx : p.tables.exec = Jvm.exec) (hb : cd.code = cc) (hdg : decode cc pc = .ok (.aaload, 1)) (he : bi_x cf .aaload r L st h = some (L', st', h')) (kk : bi_At p l e R s m args below meth cd Q D B0 Hb nL n0 m0 (pc + 1) L' st' h') : bi_At p l e R s m args below meth cd Q D B0 Hb nL n0 m0 pc L st h := by
  intro H locs ls cells slots hr hl hw hlc hc hs
  unfold bi_x at he
  dsimp only at he
  split at he
  · split at he
    · rename_i j a st0 ha
      cases he
      obtain ⟨b, rfl⟩ := bi_kz hr (a := a) (by omega)
      obtain ⟨ty, hty⟩ := bi_aty_some (t := (bi_k h (b + 1)).1) (by omega)
      exact bi_aald hx hb hr (by omega) hty ha.2.1 ha.2.2 hdg (kk H locs ls cells slots hr hl hw hlc hc hs)
    · cases he
  · cases he
theorem bi_s_alen (hx : p.tables.exec = Jvm.exec) (hb : cd.code = cc) (hdg : decode cc pc = .ok (.arraylength, 1)) (he : bi_x cf .arraylength r L st h = some (L', st', h')) (kk : bi_At p l e R s m args below meth cd Q D B0 Hb nL n0 m0 (pc + 1) L' st' h') : bi_At p l e R s m args below meth cd Q D B0 Hb nL n0 m0 pc L st h := by
  intro H locs ls cells slots hr hl hw hlc hc hs
  unfold bi_x at he
  dsimp only at he
  split at he
  · split at he
    · rename_i a st0 ha
      cases he
      obtain ⟨b, rfl⟩ := bi_kz hr (a := a) (by omega)
      obtain ⟨ty, hty⟩ := bi_aty_some ha
      exact bi_alen hx hb hr hty hdg (kk H locs ls cells slots hr hl hw hlc hc hs)
    · cases he
  · cases he
theorem bi_s_iast (hx : p.tables.exec = Jvm.exec) (hb : cd.code = cc) (hdg : decode cc pc = .ok (.iastore, 1)) (he : bi_x cf .iastore r L st h = some (L', st', h')) (kk : bi_At p l e R s m args below meth cd Q D B0 Hb nL n0 m0 (pc + 1) L' st' h') : bi_At p l e R s m args below meth cd Q D B0 Hb nL n0 m0 pc L st h := by
  intro H locs ls cells slots hr hl hw hlc hc hs
  unfold bi_x at he
  dsimp only at he
  split at he
  · split at he
    · rename_i x j a st0 ha
      cases he
      obtain ⟨b, rfl⟩ := bi_kz hr (a := a) (by omega)
      exact bi_iast hx hb hr ha.1 ha.2.1 ha.2.2 hdg (fun H' i hr' => kk H' _ ls cells slots hr' hl hw (bi_lcs hlc (bi_lo hr (by omega) (by omega))) hc hs)
    · cases he
  · cases he
theorem bi_s_bast (hx : p.tables.exec = Jvm.exec) (hb : cd.code = cc) (hdg : decode cc pc = .ok (.bastore, 1)) (he : bi_x cf .bastore r L st h = some (L', st', h')) (kk : bi_At p l e R s m args below meth cd Q D B0 Hb nL n0 m0 (pc + 1) L' st' h') : bi_At p l e R s m args below meth cd Q D B0 Hb nL n0 m0 pc L st h := by
  intro H locs ls cells slots hr hl hw hlc hc hs
  unfold bi_x at he
  dsimp only at he
  split at he
  · split at he
    · rename_i x j a st0 ha
      cases he
      obtain ⟨b, rfl⟩ := bi_kz hr (a := a) (by omega)
      exact bi_zast hx hb hr ha.1 ha.2.1 ha.2.2.1 ha.2.2.2 hdg (fun H' i hr' => kk H' _ ls cells slots hr' hl hw (bi_lcs hlc (bi_lo hr (by omega) (by omega))) hc hs)
    · cases he
  · cases he
theorem bi_s_last (hx : p.tables.exec = Jvm.exec) (hb : cd.code = cc) (hdg : decode cc pc = .ok (.lastore, 1)) (he : bi_x cf .lastore r L st h = some (L', st', h')) (kk : bi_At p l e R s m args below meth cd Q D B0 Hb nL n0 m0 (pc + 1) L' st' h') : bi_At p l e R s m args below meth cd Q D B0 Hb nL n0 m0 pc L st h := by
  intro H locs ls cells slots hr hl hw hlc hc hs
  unfold bi_x at he
  dsimp only at he
  split at he
  · split at he
    · rename_i x j a st0 ha
      cases he
      obtain ⟨b, rfl⟩ := bi_kz hr (a := a) (by omega)
      exact bi_last hx hb hr ha.1 ha.2.1 ha.2.2 hdg (fun H' i hr' => kk H' _ ls cells slots hr' hl hw (bi_lcs hlc (bi_lo hr (by omega) (by omega))) hc hs)
    · cases he
  · cases he
theorem bi_s_aast (hx : p.tables.exec = Jvm.exec) (hb : cd.code = cc) (hdg : decode cc pc = .ok (.aastore, 1)) (he : bi_x cf .aastore r L st h = some (L', st', h')) (kk : bi_At p l e R s m args below meth cd Q D B0 Hb nL n0 m0 (pc + 1) L' st' h') : bi_At p l e R s m args below meth cd Q D B0 Hb nL n0 m0 pc L st h := by
  intro H locs ls cells slots hr hl hw hlc hc hs
  unfold bi_x at he
  dsimp only at he
  split at he
  · split at he
    · rename_i x j a st0 ha
      cases he
      obtain ⟨b, rfl⟩ := bi_kz hr (a := a) (by omega)
      obtain ⟨q, hq, -⟩ := bi_aty_q (c := (bi_k h (b + 1)).1 - 40) (by omega)
      exact bi_aast hx hb hr (c := (bi_k h (b + 1)).1 - 40) (by omega) hq (ha.2.1.imp id (fun z => by omega)) ha.2.2.1 ha.2.2.2 hdg (fun H' i hr' => kk H' _ ls cells slots hr' hl hw (bi_lcs hlc (bi_lo hr (by omega) (by omega))) hc hs)
    · cases he
  · cases he
theorem bi_s_newa {t : ArrayType} (hx : p.tables.exec = Jvm.exec) (hb : cd.code = cc) (hok : bi_oki own nL ini (.newarray t) r) (hdg : decode cc pc = .ok (.newarray t, 2)) (he : bi_x cf (.newarray t) r L st h = some (L', st', h')) (hRc : bi_nc h' ≤ n0 + R.cells) (hRs : bi_ns h' ≤ m0 + R.slots) (kk : bi_At p l e R s m args below meth cd Q D B0 Hb nL n0 m0 (pc + 2) L' st' h') : bi_At p l e R s m args below meth cd Q D B0 Hb nL n0 m0 pc L st h := by
  intro H locs ls cells slots hr hl hw hlc hc hs
  unfold bi_x at he
  dsimp only at he
  split at he
  · split at he
    · rename_i n st0 ha
      cases he
      have ht : (t = .int ∧ (if t = .int then 1 else if t = .boolean then 2 else 3) = 1) ∨ (t = .boolean ∧ (if t = .int then 1 else if t = .boolean then 2 else 3) = 2) ∨ (t = .long ∧ (if t = .int then 1 else if t = .boolean then 2 else 3) = 3) := by
        rcases ha.2.2 with rfl | rfl | rfl
        · exact Or.inl ⟨rfl, rfl⟩
        · exact Or.inr (Or.inl ⟨rfl, rfl⟩)
        · exact Or.inr (Or.inr ⟨rfl, rfl⟩)
      have e1 : bi_nc (bi_new h (if t = .int then 1 else if t = .boolean then 2 else 3, n.toNatClampNeg) n.toNatClampNeg) = bi_nc h + 1 := rfl
      have e2 : bi_ns (bi_new h (if t = .int then 1 else if t = .boolean then 2 else 3, n.toNatClampNeg) n.toNatClampNeg) = bi_ns h + n.toNatClampNeg := rfl
      exact bi_newa hx hb hr ht hok ha.1 ha.2.1 hdg (by omega) (by omega) (fun H' hr' => kk H' locs ls (cells + 1) (slots + n.toNatClampNeg) hr' hl hw hlc (by omega) (by omega))
    · cases he
  · cases he
theorem bi_s_anew {k : Nat} (hx : p.tables.exec = Jvm.exec) (hb : cd.code = cc) (hown : s.vm.findClass own = some m.cls) (hok : bi_oki own nL ini (.anewarray k) r) (hdg : decode cc pc = .ok (.anewarray k, 3)) (he : bi_x cf (.anewarray k) r L st h = some (L', st', h')) (hRc : bi_nc h' ≤ n0 + R.cells) (hRs : bi_ns h' ≤ m0 + R.slots) (kk : bi_At p l e R s m args below meth cd Q D B0 Hb nL n0 m0 (pc + 3) L' st' h') : bi_At p l e R s m args below meth cd Q D B0 Hb nL n0 m0 pc L st h := by
  intro H locs ls cells slots hr hl hw hlc hc hs
  obtain ⟨q, hq, h1, h2⟩ := hok
  unfold bi_x at he
  dsimp only at he
  split at he
  · split at he
    · rename_i n st0 ha
      cases he
      have e1 : bi_nc (bi_new h (40 + r.1, n.toNatClampNeg) n.toNatClampNeg) = bi_nc h + 1 := rfl
      have e2 : bi_ns (bi_new h (40 + r.1, n.toNatClampNeg) n.toNatClampNeg) = bi_ns h + n.toNatClampNeg := rfl
      exact bi_anew hx hb hown hr hq h1 h2 ha.1 ha.2 hdg (by omega) (by omega) (fun H' hr' => kk H' locs ls (cells + 1) (slots + n.toNatClampNeg) hr' hl hw hlc (by omega) (by omega))
    · cases he
  · cases he
theorem bi_s_new {k : Nat} (hx : p.tables.exec = Jvm.exec) (hb : cd.code = cc) (hown : s.vm.findClass own = some m.cls) (hok : bi_oki own nL ini (.new k) r) (hdg : decode cc pc = .ok (.new k, 3)) (he : bi_x cf (.new k) r L st h = some (L', st', h')) (hRc : bi_nc h' ≤ n0 + R.cells) (hRs : bi_ns h' ≤ m0 + R.slots) (kk : bi_At p l e R s m args below meth cd Q D B0 Hb nL n0 m0 (pc + 3) L' st' h') : bi_At p l e R s m args below meth cd Q D B0 Hb nL n0 m0 pc L st h := by
  intro H locs ls cells slots hr hl hw hlc hc hs
  obtain ⟨q, hq, hN, h1, h2, h3⟩ := hok
  unfold bi_x at he
  dsimp only at he
  cases he
  have e1 : bi_nc (bi_new h (10 + r.1, 0) r.2.1) = bi_nc h + 1 := rfl
  have e2 : bi_ns (bi_new h (10 + r.1, 0) r.2.1) = bi_ns h + r.2.1 := rfl
  refine bi_newc hx hb hown hr hq h1 h2 h3 hdg (by omega) (by omega) (fun H' hr' => ?_)
  rw [← hN] at hr' ⊢
  exact kk H' locs ls (cells + 1) (slots + r.2.1) hr' hl hw hlc (by omega) (by omega)
end BZ
