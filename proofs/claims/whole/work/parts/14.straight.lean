/-! all straight instructions, and rows of them -/
section BW
variable {p : Program} {l : Launch} {e : Env} {R : Room} {s : State} {m : MethodId} {args : Array Value} {below : List Frame} {meth : Method} {cd : Code} {Q : State → Prop} {D : va_G} {B0 : Nat} {Hb : Heap} {nL n0 m0 : Nat} {cc : ByteArray} {pc : Nat} {own : String} {L L' : bi_L} {st st' : List bi_V} {h h' : bi_H} {ini : Bool} {r : bi_R} {cf : Nat → List bi_V → bi_H → Option (Option bi_V × bi_H)} {M : Nat → Option bi_M}
theorem bi_s_null (hx : p.tables.exec = Jvm.exec) (hb : cd.code = cc) (hdg : decode cc pc = .ok (.aconst_null, 1)) (kk : bi_At p l e R s m args below meth cd Q D B0 Hb nL n0 m0 (pc + 1) L (.inr (.inl 0) :: st) h) : bi_At p l e R s m args below meth cd Q D B0 Hb nL n0 m0 pc L st h := by
  intro H locs ls cells slots hr hl hw hlc hc hs
  exact lv_null hx hb hdg (kk H locs ls cells slots hr hl hw hlc hc hs)
set_option maxHeartbeats 4000000 in
theorem bi_sx {i : Instr} (hx : p.tables.exec = Jvm.exec) (hb : cd.code = cc) (hml : cd.maxLocals = nL) (hown : s.vm.findClass own = some m.cls) (hini : ini = true → meth.name = "<init>") (hcf : bi_cfok l D B0 Hb M cf) (hok : bi_oki own nL ini i r) (hokc : bi_okc M own R i r) (hdg : decode cc pc = .ok (i, bi_len i)) (he : bi_x cf i r L st h = some (L', st', h')) (hRc : bi_nc h' ≤ n0 + R.cells) (hRs : bi_ns h' ≤ m0 + R.slots) (kk : bi_At p l e R s m args below meth cd Q D B0 Hb nL n0 m0 (pc + bi_len i) L' st' h') : bi_At p l e R s m args below meth cd Q D B0 Hb nL n0 m0 pc L st h := by
  cases i with
  | iconst n => cases he; exact bi_s_num (n := 1) (fun H locs ls cells slots rest _ k => lv_iconst hx hb hdg rfl k) kk
  | bipush n => cases he; exact bi_s_num (n := 2) (fun H locs ls cells slots rest _ k => lv_bipush hx hb hdg hok k) kk
  | sipush n => cases he; exact bi_s_num (n := 3) (fun H locs ls cells slots rest _ k => lv_sipush hx hb hdg hok k) kk
  | ldc n => cases he; exact bi_s_num (n := 2) (fun H locs ls cells slots rest hr k => lv_ldc hx hb hown (bi_hts hr hok rfl) hdg k) kk
  | ldc_w n => cases he; exact bi_s_num (n := 3) (fun H locs ls cells slots rest hr k => lv_ldcw hx hb hown (bi_hts hr hok rfl) hdg k) kk
  | aconst_null => cases he; exact bi_s_null hx hb hdg kk
  | iload_n n => exact bi_s_ldi hx hb (Or.inl ⟨n, rfl, rfl⟩) hdg he kk
  | iload n => exact bi_s_ldi hx hb (Or.inr rfl) hdg he kk
  | aload_n n => exact bi_s_lda hx hb (Or.inl ⟨n, rfl, rfl⟩) hdg he kk
  | aload n => exact bi_s_lda hx hb (Or.inr rfl) hdg he kk
  | istore_n n => exact bi_s_sti hx hb (Or.inl ⟨n, rfl, rfl⟩) hok hdg he kk
  | istore n => exact bi_s_sti hx hb (Or.inr rfl) hok hdg he kk
  | astore_n n => exact bi_s_sta hx hb (Or.inl ⟨n, rfl, rfl⟩) hok hdg he kk
  | astore n => exact bi_s_sta hx hb (Or.inr rfl) hok hdg he kk
  | iinc n v => exact bi_s_iinc hx hb hok hdg he kk
  | iadd => exact bi_s_op2 (fun x y H locs ls cells slots rest k => lv_iadd hx hb hdg k) he kk
  | isub => exact bi_s_op2 (fun x y H locs ls cells slots rest k => lv_isub hx hb hdg k) he kk
  | imul => exact bi_s_op2 (fun x y H locs ls cells slots rest k => lv_imul hx hb hdg k) he kk
  | iand => exact bi_s_op2 (fun x y H locs ls cells slots rest k => lv_iand hx hb hdg k) he kk
  | ixor => exact bi_s_op2 (fun x y H locs ls cells slots rest k => lv_ixor hx hb hdg k) he kk
  | idiv => exact bi_s_div hx hb hdg he kk
  | irem => exact bi_s_rem hx hb hdg he kk
  | i2l => exact bi_s_i2l hx hb hdg he kk
  | lcmp => exact bi_s_lcmp hx hb hdg he kk
  | dup => exact bi_s_dup hx hb hdg he kk
  | dup2 => exact bi_s_dup2 hx hb hdg he kk
  | getfield k => exact bi_s_get hx hb hown hok hdg he kk
  | putfield k => exact bi_s_put hx hb hown hini hok hdg he kk
  | iaload => exact bi_s_iald hx hb hdg he kk
  | baload => exact bi_s_bald hx hb hdg he kk
  | laload => exact bi_s_lald hx hb hdg he kk
  | aaload => exact bi_s_aald hx hb hdg he kk
  | iastore => exact bi_s_iast hx hb hdg he kk
  | bastore => exact bi_s_bast hx hb hdg he kk
  | lastore => exact bi_s_last hx hb hdg he kk
  | aastore => exact bi_s_aast hx hb hdg he kk
  | arraylength => exact bi_s_alen hx hb hdg he kk
  | newarray t => exact bi_s_newa hx hb hok hdg he hRc hRs kk
  | anewarray k => exact bi_s_anew hx hb hown hok hdg he hRc hRs kk
  | multianewarray k d => exact bi_s_multi hx hb hown hok hdg he hRc hRs kk
  | new k => exact bi_s_new hx hb hown hok hdg he hRc hRs kk
  | invokestatic k => exact bi_s_static hx hb hml hown hcf hokc hdg he hRc hRs kk
  | invokevirtual k => exact bi_s_virtual hx hb hml hown hcf hokc hdg he hRc hRs kk
  | invokespecial k => exact bi_s_special hx hb hml hown hcf hokc hdg he hRc hRs kk
  | _ => cases he
/-- what is made only grows -/
def bi_up (h h' : bi_H) : Prop := bi_nc h ≤ bi_nc h' ∧ bi_ns h ≤ bi_ns h' ∧ bi_nx h ≤ bi_nx h'
theorem bi_up_rf {h : bi_H} : bi_up h h := ⟨Nat.le_refl _, Nat.le_refl _, Nat.le_refl _⟩
theorem bi_up.tr {h1 h2 h3 : bi_H} (a : bi_up h1 h2) (b : bi_up h2 h3) : bi_up h1 h3 := ⟨Nat.le_trans a.1 b.1, Nat.le_trans a.2.1 b.2.1, Nat.le_trans a.2.2 b.2.2⟩
theorem bi_up_new {h : bi_H} {kd : Nat × Nat} {n : Nat} : bi_up h (bi_new h kd n) := ⟨Nat.le_add_right _ _, Nat.le_add_right _ _, Nat.le_add_right _ _⟩
theorem bi_up_new2 {h : bi_H} {n k : Nat} : bi_up h (bi_new2 h n k) := ⟨by show bi_nc h ≤ bi_nc h + n + 1; omega, by show bi_ns h ≤ bi_ns h + n + n * k; omega, by show bi_nx h ≤ bi_nx h + n + 1; omega⟩
theorem bi_up_ret {mi : Nat} {as : List bi_V} {rest : List bi_V} (hcf : ∀ (mi : Nat) (as : List bi_V) (h : bi_H) (v : Option bi_V) (h' : bi_H), cf mi as h = some (v, h') → bi_up h h') (he : bi_ret L rest (cf mi as h) = some (L', st', h')) : bi_up h h' := by
  unfold bi_ret at he
  split at he
  · rename_i v h1 hc
    cases he
    exact hcf _ _ _ _ _ hc
  · cases he
theorem bi_up_callo {mi n c : Nat} (hcf : ∀ (mi : Nat) (as : List bi_V) (h : bi_H) (v : Option bi_V) (h' : bi_H), cf mi as h = some (v, h') → bi_up h h') (he : bi_callo cf mi n c L st h = some (L', st', h')) : bi_up h h' := by
  unfold bi_callo at he
  split at he
  · split at he
    · exact bi_up_ret hcf he
    · cases he
  · cases he
theorem bi_up_calls {mi n : Nat} (hcf : ∀ (mi : Nat) (as : List bi_V) (h : bi_H) (v : Option bi_V) (h' : bi_H), cf mi as h = some (v, h') → bi_up h h') (he : bi_calls cf mi n L st h = some (L', st', h')) : bi_up h h' := by
  unfold bi_calls at he
  split at he
  · exact bi_up_ret hcf he
  · cases he
set_option maxHeartbeats 4000000 in
theorem bi_up_x {i : Instr} (hcf : ∀ (mi : Nat) (as : List bi_V) (h : bi_H) (v : Option bi_V) (h' : bi_H), cf mi as h = some (v, h') → bi_up h h') (he : bi_x cf i r L st h = some (L', st', h')) : bi_up h h' := by
  cases i with
  | invokestatic k => exact bi_up_calls hcf he
  | invokevirtual k => exact bi_up_callo hcf he
  | invokespecial k =>
    unfold bi_x at he
    dsimp only at he
    split at he
    · split at he
      · split at he
        · cases he; exact bi_up_rf
        · cases he
      · cases he
    · exact bi_up_callo hcf he
  | _ =>
    unfold bi_x at he
    dsimp only at he
    try unfold bi_ldi at he
    try unfold bi_lda at he
    try unfold bi_sti at he
    try unfold bi_sta at he
    try unfold bi_op2 at he
    repeat' (split at he)
    all_goals first | (cases he; first | exact bi_up_rf | exact bi_up_new | exact bi_up_new2) | cases he
theorem bi_up_xs (hcf : ∀ (mi : Nat) (as : List bi_V) (h : bi_H) (v : Option bi_V) (h' : bi_H), cf mi as h = some (v, h') → bi_up h h') : ∀ (is : List bi_I) {L L' : bi_L} {st st' : List bi_V} {h h' : bi_H}, bi_xs cf is L st h = some (L', st', h') → bi_up h h'
  | [], _, _, _, _, _, _, he => by cases he; exact bi_up_rf
  | i :: is, L, L', st, st', h, h', he => by
    unfold bi_xs at he
    split at he
    · cases he
    · rename_i q hq
      exact bi_up.tr (bi_up_x hcf hq) (bi_up_xs hcf is he)
/-- the place behind a row of instructions -/
def bi_end : Nat → List bi_I → Nat
  | pc, [] => pc
  | pc, i :: is => bi_end (pc + bi_len i.1) is
/-- a row of instructions as the code has it -/
def bi_okr (M : Nat → Option bi_M) (own : String) (nL : Nat) (ini : Bool) (R : Room) (cc : ByteArray) : Nat → List bi_I → Prop
  | _, [] => True
  | pc, i :: is => decode cc pc = .ok (i.1, bi_len i.1) ∧ bi_oki own nL ini i.1 i.2 ∧ bi_okc M own R i.1 i.2 ∧ bi_okr M own nL ini R cc (pc + bi_len i.1) is
theorem bi_okr_room {M : Nat → Option bi_M} {own : String} {nL : Nat} {ini : Bool} {R R' : Room} {cc : ByteArray} (hf : R'.frames = R.frames) (hl : R'.locals = R.locals) : ∀ (is : List bi_I) (pc : Nat), bi_okr M own nL ini R cc pc is → bi_okr M own nL ini R' cc pc is
  | [], _, h => h
  | i :: is, pc, h => by
    obtain ⟨h1, h2, h3, h4⟩ := h
    refine ⟨h1, h2, ?_, bi_okr_room hf hl is _ h4⟩
    unfold bi_okc at h3 ⊢
    unfold bi_okb at h3 ⊢
    rw [hf, hl]
    exact h3
theorem bi_sxs (hx : p.tables.exec = Jvm.exec) (hb : cd.code = cc) (hml : cd.maxLocals = nL) (hown : s.vm.findClass own = some m.cls) (hini : ini = true → meth.name = "<init>") (hcf : bi_cfok l D B0 Hb M cf) (hup : ∀ (mi : Nat) (as : List bi_V) (h : bi_H) (v : Option bi_V) (h' : bi_H), cf mi as h = some (v, h') → bi_up h h') : ∀ (is : List bi_I) (pc : Nat) {L L' : bi_L} {st st' : List bi_V} {h h' : bi_H}, bi_okr M own nL ini R cc pc is → bi_xs cf is L st h = some (L', st', h') → bi_nc h' ≤ n0 + R.cells → bi_ns h' ≤ m0 + R.slots → bi_At p l e R s m args below meth cd Q D B0 Hb nL n0 m0 (bi_end pc is) L' st' h' → bi_At p l e R s m args below meth cd Q D B0 Hb nL n0 m0 pc L st h
  | [], pc, _, _, _, _, _, _, _, he, _, _, kk => by cases he; exact kk
  | i :: is, pc, L, L', st, st', h, h', hok, he, hRc, hRs, kk => by
    obtain ⟨h1, h2, h3, h4⟩ := hok
    unfold bi_xs at he
    split at he
    · cases he
    · rename_i q hq
      have u := bi_up_xs hup is he
      have hRc' : bi_nc q.2.2 ≤ n0 + R.cells := Nat.le_trans u.1 hRc
      have hRs' : bi_ns q.2.2 ≤ m0 + R.slots := Nat.le_trans u.2.1 hRs
      exact bi_sx hx hb hml hown hini hcf h2 h3 h1 hq hRc' hRs' (bi_sxs hx hb hml hown hini hcf hup is _ h4 he hRc hRs kk)
end BW
