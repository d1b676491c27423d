/-! the interpreter's straight instructions, of the machine: numbers, fields, arrays, new cells -/
section BY
variable {p : Program} {l : Launch} {e : Env} {R : Room} {s : State} {m : MethodId} {args : Array Value} {below : List Frame} {meth : Method} {cd : Code} {Q : State → Prop} {D : va_G} {B0 : Nat} {Hb : Heap} {nL n0 m0 : Nat} {cc : ByteArray} {pc : Nat} {own : String} {L L' : bi_L} {st st' : List bi_V} {h h' : bi_H} {ini : Bool} {r : bi_R} {cf : Nat → List bi_V → bi_H → Option (Option bi_V × bi_H)}
theorem bi_s_op2 {f : Int32 → Int32 → Int32} (row : ∀ (x y : Int32) (H : Heap) (locs : List Loc) (ls : Array Slot) (cells slots : Nat) (rest : List Value), W p l e R s m args below meth cd H locs cells slots Q (F0 m (pc + 1) ls (.int (f x y) :: rest)) → W p l e R s m args below meth cd H locs cells slots Q (F0 m pc ls (.int y :: .int x :: rest))) (he : bi_op2 f L st h = some (L', st', h')) (kk : bi_At p l e R s m args below meth cd Q D B0 Hb nL n0 m0 (pc + 1) L' st' h') : bi_At p l e R s m args below meth cd Q D B0 Hb nL n0 m0 pc L st h := by
  intro H locs ls cells slots hr hl hw hlc hc hs
  unfold bi_op2 at he
  split at he
  · cases he
    exact row _ _ H locs ls cells slots _ (kk H locs ls cells slots hr hl hw hlc hc hs)
  · cases he
theorem bi_s_num {v : Int32} {n : Nat} (row : ∀ (H : Heap) (locs : List Loc) (ls : Array Slot) (cells slots : Nat) (rest : List Value) (s0 : bi_rp D B0 Hb h s H), W p l e R s m args below meth cd H locs cells slots Q (F0 m (pc + n) ls (.int v :: rest)) → W p l e R s m args below meth cd H locs cells slots Q (F0 m pc ls rest)) (kk : bi_At p l e R s m args below meth cd Q D B0 Hb nL n0 m0 (pc + n) L (.inl v :: st) h) : bi_At p l e R s m args below meth cd Q D B0 Hb nL n0 m0 pc L st h := by
  intro H locs ls cells slots hr hl hw hlc hc hs
  exact row H locs ls cells slots _ hr (kk H locs ls cells slots hr hl hw hlc hc hs)
theorem bi_s_iinc {k : Nat} {v : Int} (hx : p.tables.exec = Jvm.exec) (hb : cd.code = cc) (hk : k < nL) (hdg : decode cc pc = .ok (.iinc k v, 3)) (he : bi_x cf (.iinc k v) r L st h = some (L', st', h')) (kk : bi_At p l e R s m args below meth cd Q D B0 Hb nL n0 m0 (pc + 3) L' st' h') : bi_At p l e R s m args below meth cd Q D B0 Hb nL n0 m0 pc L st h := by
  intro H locs ls cells slots hr hl hw hlc hc hs
  unfold bi_x at he
  dsimp only at he
  split at he
  · rename_i x hx0
    cases he
    have hm : (k, bi_tv (.inl x)) ∈ L.map bi_lq := List.mem_map.mpr ⟨(k, .inl x), bi_lk hx0, rfl⟩
    obtain ⟨j, hj⟩ := List.getElem?_of_mem hm
    exact lv_iinc hx hb hdg hl hj rfl hk rfl (fun ls' h9 => kk H locs ls' cells slots hr (bi_stl (v := .inl (x + Int32.ofInt v)) hw h9) (bi_stw hw rfl) hlc hc hs)
  · cases he
theorem bi_s_div (hx : p.tables.exec = Jvm.exec) (hb : cd.code = cc) (hdg : decode cc pc = .ok (.idiv, 1)) (he : bi_x cf .idiv r L st h = some (L', st', h')) (kk : bi_At p l e R s m args below meth cd Q D B0 Hb nL n0 m0 (pc + 1) L' st' h') : bi_At p l e R s m args below meth cd Q D B0 Hb nL n0 m0 pc L st h := by
  intro H locs ls cells slots hr hl hw hlc hc hs
  unfold bi_x at he
  dsimp only at he
  split at he
  · split at he
    · cases he
    · rename_i hy
      cases he
      exact lv_idiv hx hb hdg hy (kk H locs ls cells slots hr hl hw hlc hc hs)
  · cases he
theorem bi_s_rem (hx : p.tables.exec = Jvm.exec) (hb : cd.code = cc) (hdg : decode cc pc = .ok (.irem, 1)) (he : bi_x cf .irem r L st h = some (L', st', h')) (kk : bi_At p l e R s m args below meth cd Q D B0 Hb nL n0 m0 (pc + 1) L' st' h') : bi_At p l e R s m args below meth cd Q D B0 Hb nL n0 m0 pc L st h := by
  intro H locs ls cells slots hr hl hw hlc hc hs
  unfold bi_x at he
  dsimp only at he
  split at he
  · split at he
    · cases he
    · rename_i hy
      cases he
      exact lv_irem hx hb hdg hy (kk H locs ls cells slots hr hl hw hlc hc hs)
  · cases he
theorem bi_lt64 (x y : Int32) : x.toInt64 < y.toInt64 ↔ x < y := by
  rw [Int64.lt_iff_toInt_lt, Int32.lt_iff_toInt_lt, Int32.toInt_toInt64, Int32.toInt_toInt64]
theorem bi_eq64 (x y : Int32) : x.toInt64 = y.toInt64 ↔ x = y := by
  rw [← Int64.toInt_inj, ← Int32.toInt_inj, Int32.toInt_toInt64, Int32.toInt_toInt64]
theorem bi_lcmp (x y : Int32) : lg_cmp x.toInt64 y.toInt64 = (if y < x then 1 else if x = y then 0 else -1) := by
  simp only [lg_cmp, bi_lt64, bi_eq64]
theorem bi_s_i2l (hx : p.tables.exec = Jvm.exec) (hb : cd.code = cc) (hdg : decode cc pc = .ok (.i2l, 1)) (he : bi_x cf .i2l r L st h = some (L', st', h')) (kk : bi_At p l e R s m args below meth cd Q D B0 Hb nL n0 m0 (pc + 1) L' st' h') : bi_At p l e R s m args below meth cd Q D B0 Hb nL n0 m0 pc L st h := by
  intro H locs ls cells slots hr hl hw hlc hc hs
  unfold bi_x at he
  dsimp only at he
  split at he
  · cases he
    exact lv_i2l hx hb hdg rfl (kk H locs ls cells slots hr hl hw hlc hc hs)
  · cases he
theorem bi_s_lcmp (hx : p.tables.exec = Jvm.exec) (hb : cd.code = cc) (hdg : decode cc pc = .ok (.lcmp, 1)) (he : bi_x cf .lcmp r L st h = some (L', st', h')) (kk : bi_At p l e R s m args below meth cd Q D B0 Hb nL n0 m0 (pc + 1) L' st' h') : bi_At p l e R s m args below meth cd Q D B0 Hb nL n0 m0 pc L st h := by
  intro H locs ls cells slots hr hl hw hlc hc hs
  unfold bi_x at he
  dsimp only at he
  split at he
  · rename_i y x st0
    cases he
    refine W.lcmp hx hb hdg ?_
    rw [bi_lcmp]
    exact kk H locs ls cells slots hr hl hw hlc hc hs
  · cases he
theorem bi_s_dup (hx : p.tables.exec = Jvm.exec) (hb : cd.code = cc) (hdg : decode cc pc = .ok (.dup, 1)) (he : bi_x cf .dup r L st h = some (L', st', h')) (kk : bi_At p l e R s m args below meth cd Q D B0 Hb nL n0 m0 (pc + 1) L' st' h') : bi_At p l e R s m args below meth cd Q D B0 Hb nL n0 m0 pc L st h := by
  intro H locs ls cells slots hr hl hw hlc hc hs
  unfold bi_x at he
  dsimp only at he
  split at he
  · split at he
    · rename_i hv
      cases he
      exact lv_dup hx hb hdg (by rw [bi_cat]; exact hv) (kk H locs ls cells slots hr hl hw hlc hc hs)
    · cases he
  · cases he
theorem bi_s_dup2 (hx : p.tables.exec = Jvm.exec) (hb : cd.code = cc) (hdg : decode cc pc = .ok (.dup2, 1)) (he : bi_x cf .dup2 r L st h = some (L', st', h')) (kk : bi_At p l e R s m args below meth cd Q D B0 Hb nL n0 m0 (pc + 1) L' st' h') : bi_At p l e R s m args below meth cd Q D B0 Hb nL n0 m0 pc L st h := by
  intro H locs ls cells slots hr hl hw hlc hc hs
  unfold bi_x at he
  dsimp only at he
  split at he
  · split at he
    · rename_i hv
      cases he
      exact lv_dup2_11 hx hb hdg (by rw [bi_cat]; exact hv.1) (by rw [bi_cat]; exact hv.2) (kk H locs ls cells slots hr hl hw hlc hc hs)
    · cases he
  · cases he
theorem bi_kz {H : Heap} (hr : bi_rp D B0 Hb h s H) {a : Nat} (ha : (bi_k h a).1 ≠ 0) : ∃ b, a = b + 1 := by
  cases a with
  | zero => exact absurd hr.2.2.2.1 ha
  | succ b => exact ⟨b, rfl⟩
theorem bi_s_get {k : Nat} (hx : p.tables.exec = Jvm.exec) (hb : cd.code = cc) (hown : s.vm.findClass own = some m.cls) (hok : bi_oki own nL ini (.getfield k) r) (hdg : decode cc pc = .ok (.getfield k, 3)) (he : bi_x cf (.getfield k) r L st h = some (L', st', h')) (kk : bi_At p l e R s m args below meth cd Q D B0 Hb nL n0 m0 (pc + 3) L' st' h') : bi_At p l e R s m args below meth cd Q D B0 Hb nL n0 m0 pc L st h := by
  intro H locs ls cells slots hr hl hw hlc hc hs
  obtain ⟨q, hq, hkn, hfl, hft⟩ := hok
  unfold bi_x at he
  dsimp only at he
  split at he
  · rename_i a st0
    split at he
    · rename_i ha
      cases he
      obtain ⟨b, rfl⟩ := bi_kz hr (a := a) (by omega)
      have k1 := kk H locs ls cells slots hr hl hw hlc hc hs
      refine bi_get hx hb hown hr ha hq hkn hfl hdg ?_
      rw [hft] at k1
      have e0 : bi_tv (if bi_ft r.1 r.2.1 = 1 then .inr (.inl (bi_fr h r.1 r.2.1 (b + 1))) else .inl (bi_fi h r.1 r.2.1 (b + 1))) = bi_fv h r.1 r.2.1 (b + 1) := by
        unfold bi_fv
        split <;> rfl
      rw [List.map_cons, e0] at k1
      exact k1
    · cases he
  · cases he
theorem bi_s_put {k : Nat} (hx : p.tables.exec = Jvm.exec) (hb : cd.code = cc) (hown : s.vm.findClass own = some m.cls) (hini : ini = true → meth.name = "<init>") (hok : bi_oki own nL ini (.putfield k) r) (hdg : decode cc pc = .ok (.putfield k, 3)) (he : bi_x cf (.putfield k) r L st h = some (L', st', h')) (kk : bi_At p l e R s m args below meth cd Q D B0 Hb nL n0 m0 (pc + 3) L' st' h') : bi_At p l e R s m args below meth cd Q D B0 Hb nL n0 m0 pc L st h := by
  intro H locs ls cells slots hr hl hw hlc hc hs
  obtain ⟨q, hq, hkn, hfl, hft, hfin⟩ := hok
  have h13 := bi_c13 hq
  have h39 := Nat.lt_of_lt_of_le hkn (bi_n39 _ q hq)
  have hfin' : (q.2.1 r.2.1).2.2.2 = false ∨ ((q.2.1 r.2.1).1 = own ∧ meth.name = "<init>" ∧ Cond.fieldLink own k (q.2.1 r.2.1).1 (q.2.1 r.2.1).2.1 (q.2.1 r.2.1).2.2.1 ∈ lw_tbl) := hfin.imp id (fun z => ⟨z.1, hini z.2.1, z.2.2⟩)
  have hlc' : ∀ {a i : Nat}, B0 ≤ a → ∀ z ∈ locs ++ [(⟨a, i⟩ : Loc)], B0 ≤ z.base := fun ha z hz => by
    rcases List.mem_append.mp hz with hz | hz
    · exact hlc z hz
    · rw [List.mem_singleton.mp hz]; exact ha
  unfold bi_x at he
  dsimp only at he
  split at he
  · rename_i x a st0
    split at he
    · rename_i ha
      cases he
      obtain ⟨b, rfl⟩ := bi_kz hr (a := a) (by omega)
      have hB : B0 ≤ b := (hr.2.2.2.2.1 b (by omega)).2 (by omega)
      have hft1 : bi_ft r.1 r.2.1 ≠ 1 := by omega
      have hn : narrow (bi_ty r.1 r.2.1) (.int x) = .int x ∧ fits (bi_ty r.1 r.2.1) (.int x) = true := by
        rcases ha.2 with z | ⟨z, z2⟩
        · rw [bi_ty_i _ h13 _ h39 (by omega)]
          exact ⟨rfl, rfl⟩
        · rw [bi_ty_z _ h13 _ h39 (by omega)]
          exact bi_nar_z z2
      refine bi_put (h' := bi_sfi h r.1 r.2.1 (b + 1) x) hx hb hown hr ha.1 hq hkn hfl hfin' hn (fun _ => rfl) rfl (fun c0 k0 b0 hb0 => ?_) (fun j => ?_) (fun t b0 j0 _ => rfl) hdg (fun H' i hr' => kk H' _ ls cells slots hr' hl hw (hlc' hB) hc hs)
      · simp [bi_fv, bi_fr, bi_fi, bi_sfi, hb0]
      · by_cases ej : j = r.2.1
        · subst ej
          simp [bi_fv, bi_fr, bi_fi, bi_sfi, updV, hft1, bi_tv]
        · simp [bi_fv, bi_fr, bi_fi, bi_sfi, updV, ej]
    · cases he
  · rename_i x a st0
    split at he
    · rename_i ha
      cases he
      obtain ⟨b, rfl⟩ := bi_kz hr (a := a) (by omega)
      have hB : B0 ≤ b := (hr.2.2.2.2.1 b (by omega)).2 (by omega)
      have hft1 : bi_ft r.1 r.2.1 = 1 := by omega
      have hn := bi_nar_r (bi_ty_r _ h13 _ h39 hft1) x
      refine bi_put (v := bi_tr x) (h' := bi_sfr h r.1 r.2.1 (b + 1) x) hx hb hown hr ha.1 hq hkn hfl hfin' hn (fun _ => rfl) rfl (fun c0 k0 b0 hb0 => ?_) (fun j => ?_) (fun t b0 j0 _ => rfl) hdg (fun H' i hr' => kk H' _ ls cells slots hr' hl hw (hlc' hB) hc hs)
      · simp [bi_fv, bi_fr, bi_fi, bi_sfr, hb0]
      · by_cases ej : j = r.2.1
        · subst ej
          simp [bi_fv, bi_fr, bi_fi, bi_sfr, updV, hft1]
        · simp [bi_fv, bi_fr, bi_fi, bi_sfr, updV, ej]
    · cases he
  · cases he
end BY
