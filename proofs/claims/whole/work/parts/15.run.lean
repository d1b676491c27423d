/-! blocks and runs: what the interpreter comes to, the machine comes to -/
def bi_pc (P : bi_P) (mi b : Nat) : Option Nat := (P mi b).map (fun q => q.1)
/-- the end of a block as the code has it -/
def bi_okt (P : bi_P) (mi : Nat) (cc : ByteArray) (ret : Option FieldType) (pc : Nat) (t : bi_I) (bs : List Nat) : Prop := match t.1 with
  | .nop => bi_pc P mi (bs.getD 0 0) = some pc
  | .goto off => decode cc pc = .ok (.goto off, 3) ∧ ∃ tg : Nat, (pc : Int) + off = (tg : Int) ∧ bi_pc P mi (bs.getD 0 0) = some tg
  | .ifCond c off => decode cc pc = .ok (.ifCond c off, 3) ∧ bi_pc P mi (bs.getD 1 0) = some (pc + 3) ∧ ∃ tg : Nat, (pc : Int) + off = (tg : Int) ∧ bi_pc P mi (bs.getD 0 0) = some tg
  | .if_icmp c off => decode cc pc = .ok (.if_icmp c off, 3) ∧ bi_pc P mi (bs.getD 1 0) = some (pc + 3) ∧ ∃ tg : Nat, (pc : Int) + off = (tg : Int) ∧ bi_pc P mi (bs.getD 0 0) = some tg
  | .ifnull off => decode cc pc = .ok (.ifnull off, 3) ∧ bi_pc P mi (bs.getD 1 0) = some (pc + 3) ∧ ∃ tg : Nat, (pc : Int) + off = (tg : Int) ∧ bi_pc P mi (bs.getD 0 0) = some tg
  | .ifnonnull off => decode cc pc = .ok (.ifnonnull off, 3) ∧ bi_pc P mi (bs.getD 1 0) = some (pc + 3) ∧ ∃ tg : Nat, (pc : Int) + off = (tg : Int) ∧ bi_pc P mi (bs.getD 0 0) = some tg
  | .tableswitch df lo hi offs => (∃ len, decode cc pc = .ok (.tableswitch df lo hi offs, len)) ∧ (∃ tg : Nat, (pc : Int) + df = (tg : Int) ∧ bi_pc P mi (bs.getD 0 0) = some tg) ∧ ∀ k, k < (hi - lo + 1).toNat → ∃ (off : Int) (tg : Nat), offs[k]? = some off ∧ (pc : Int) + off = (tg : Int) ∧ bi_pc P mi (bs.getD (k + 1) 0) = some tg
  | .ireturn => decode cc pc = .ok (.ireturn, 1) ∧ ((t.2.1 = 0 ∧ ret = some .int) ∨ (t.2.1 = 1 ∧ ret = some .boolean))
  | .areturn => decode cc pc = .ok (.areturn, 1) ∧ ∃ rt, ret = some rt ∧ bi_isr rt = true
  | .return_ => decode cc pc = .ok (.return_, 1) ∧ ret = none
  | _ => True
theorem bi_up_t {cf : Nat → List bi_V → bi_H → Option (bi_O × bi_H)} {t : bi_I} {bs : List Nat} {L : bi_L} {st : List bi_V} {h : bi_H} (hcf : ∀ (mi : Nat) (as : List bi_V) (h : bi_H) (o : bi_O) (h' : bi_H), cf mi as h = some (o, h') → bi_up h h') :
    (∀ o h', bi_t cf t bs L st h = some (.inl (o, h')) → bi_up h h') ∧ (∀ b L' st' h', bi_t cf t bs L st h = some (.inr (b, L', st', h')) → bi_up h h') := by
  obtain ⟨i, r⟩ := t
  constructor
  · intro o h' he
    unfold bi_t at he
    dsimp only at he
    repeat' (split at he)
    all_goals first | (cases he; first | exact bi_up_rf | exact bi_up_new) | cases he
  · intro b L' st' h' he
    unfold bi_t at he
    dsimp only at he
    repeat' (split at he)
    all_goals first | (cases he; first | exact bi_up_rf | (apply hcf; assumption)) | cases he
theorem bi_up_run (P : bi_P) : ∀ (n mi b : Nat) (L : bi_L) (st : List bi_V) (h : bi_H) (o : bi_O) (h' : bi_H), bi_run P n mi b L st h = some (o, h') → bi_up h h'
  | 0, _, _, _, _, _, _, _, he => by cases he
  | n + 1, mi, b, L, st, h, o, h', he => by
    unfold bi_run at he
    split at he
    · cases he
    · rename_i q hq
      split at he
      · cases he
      · rename_i z hz
        have u1 : bi_up h z.2.2 := bi_up_xs (fun mi as h v h' hc => by
          split at hc
          · rename_i v0 h0 hr
            cases hc
            exact bi_up_run P n _ _ _ _ _ _ _ hr
          · cases hc) _ hz
        have u2 := bi_up_t (t := q.2.2.1) (bs := q.2.2.2) (L := z.1) (st := z.2.1) (h := z.2.2) (cf := fun m as h => bi_run P n m 0 (bi_loc as) [] h) (fun mi as h o h' hc => bi_up_run P n _ _ _ _ _ _ _ hc)
        split at he
        · cases he
        · rename_i o1 ht
          cases he
          exact u1.tr (u2.1 _ _ ht)
        · rename_i w ht
          exact (u1.tr (u2.2 _ _ _ _ ht)).tr (bi_up_run P n _ _ _ _ _ _ _ he)
/-- the calls of a run of n blocks -/
def bi_cfn (P : bi_P) (n : Nat) : Nat → List bi_V → bi_H → Option (Option bi_V × bi_H) := fun m as h => match bi_run P n m 0 (bi_loc as) [] h with
  | some (.inl v, h') => some (v, h')
  | _ => none
theorem bi_up_cfn (P : bi_P) (n : Nat) : ∀ (mi : Nat) (as : List bi_V) (h : bi_H) (v : Option bi_V) (h' : bi_H), bi_cfn P n mi as h = some (v, h') → bi_up h h' := by
  intro mi as h v h' hc
  unfold bi_cfn at hc
  split at hc
  · rename_i v0 h0 hr
    cases hc
    exact bi_up_run P n _ _ _ _ _ _ _ hr
  · cases hc
section BR
variable {p : Program} {l : Launch} {e : Env} {R : Room} {s : State} {m : MethodId} {args : Array Value} {below : List Frame} {meth : Method} {cd : Code} {Q : State → Prop} {D : va_G} {B0 : Nat} {Hb : Heap} {nL n0 m0 : Nat} {cc : ByteArray} {pc : Nat} {own : String} {L L' : bi_L} {st st' : List bi_V} {h h' : bi_H} {ini : Bool} {r : bi_R} {M : Nat → Option bi_M} {P : bi_P}
/-- a jump: its condition decides -/
theorem bi_if {c : ClassFile.Cond} {off : Int} {tg : Nat} {H : Heap} {locs : List Loc} {cells slots : Nat} {ls : Array Slot} {rest : List Value} {x : Int32} (hx : p.tables.exec = Jvm.exec) (hb : cd.code = cc) (hdg : decode cc pc = .ok (.ifCond c off, 3)) (htg : (pc : Int) + off = (tg : Int)) (kt : bi_c c x 0 = true → W p l e R s m args below meth cd H locs cells slots Q (F0 m tg ls rest)) (kf : ¬ bi_c c x 0 = true → W p l e R s m args below meth cd H locs cells slots Q (F0 m (pc + 3) ls rest)) : W p l e R s m args below meth cd H locs cells slots Q (F0 m pc ls (.int x :: rest)) := by
  cases c with
  | eq => exact lv_if_eq hx hb hdg htg (fun z => kt (decide_eq_true z)) (fun z => kf (fun w => z (of_decide_eq_true w)))
  | ne => exact lv_if_ne hx hb hdg htg (fun z => kt (decide_eq_true z)) (fun z => kf (fun w => (of_decide_eq_true w) z))
  | lt => exact lv_if_lt hx hb hdg htg (fun z => kt (decide_eq_true z)) (fun z => kf (fun w => z (of_decide_eq_true w)))
  | ge => exact lv_if_ge hx hb hdg htg (fun z => kt (decide_eq_true z)) (fun z => kf (fun w => z (of_decide_eq_true w)))
  | gt => exact lv_if_gt hx hb hdg htg (fun z => kt (decide_eq_true z)) (fun z => kf (fun w => z (of_decide_eq_true w)))
  | le => exact lv_if_le hx hb hdg htg (fun z => kt (decide_eq_true z)) (fun z => kf (fun w => z (of_decide_eq_true w)))
theorem bi_icmp {c : ClassFile.Cond} {off : Int} {tg : Nat} {H : Heap} {locs : List Loc} {cells slots : Nat} {ls : Array Slot} {rest : List Value} {x y : Int32} (hx : p.tables.exec = Jvm.exec) (hb : cd.code = cc) (hdg : decode cc pc = .ok (.if_icmp c off, 3)) (htg : (pc : Int) + off = (tg : Int)) (kt : bi_c c x y = true → W p l e R s m args below meth cd H locs cells slots Q (F0 m tg ls rest)) (kf : ¬ bi_c c x y = true → W p l e R s m args below meth cd H locs cells slots Q (F0 m (pc + 3) ls rest)) : W p l e R s m args below meth cd H locs cells slots Q (F0 m pc ls (.int y :: .int x :: rest)) := by
  cases c with
  | eq => exact lv_icmp_eq hx hb hdg htg (fun z => kt (decide_eq_true z)) (fun z => kf (fun w => z (of_decide_eq_true w)))
  | ne => exact lv_icmp_ne hx hb hdg htg (fun z => kt (decide_eq_true z)) (fun z => kf (fun w => (of_decide_eq_true w) z))
  | lt => exact lv_icmp_lt hx hb hdg htg (fun z => kt (decide_eq_true z)) (fun z => kf (fun w => z (of_decide_eq_true w)))
  | ge => exact lv_icmp_ge hx hb hdg htg (fun z => kt (decide_eq_true z)) (fun z => kf (fun w => z (of_decide_eq_true w)))
  | gt => exact lv_icmp_gt hx hb hdg htg (fun z => kt (decide_eq_true z)) (fun z => kf (fun w => z (of_decide_eq_true w)))
  | le => exact lv_icmp_le hx hb hdg htg (fun z => kt (decide_eq_true z)) (fun z => kf (fun w => z (of_decide_eq_true w)))
/-- the ends of blocks that go on, but for calls -/
theorem bi_st_next {t : bi_I} {bs : List Nat} {ret : Option FieldType} {mi : Nat} {w : Nat × bi_L × List bi_V × bi_H} {cf : Nat → List bi_V → bi_H → Option (bi_O × bi_H)} (hx : p.tables.exec = Jvm.exec) (hb : cd.code = cc) (hok : bi_okt P mi cc ret pc t bs) (hnc : ∀ k, t.1 ≠ .invokevirtual k) (he : bi_t cf t bs L st h = some (.inr w)) (kk : ∀ pc', bi_pc P mi w.1 = some pc' → bi_At p l e R s m args below meth cd Q D B0 Hb nL n0 m0 pc' w.2.1 w.2.2.1 w.2.2.2) : bi_At p l e R s m args below meth cd Q D B0 Hb nL n0 m0 pc L st h := by
  obtain ⟨i, r⟩ := t
  intro H locs ls cells slots hr hl hw hlc hc hs
  cases i with
  | nop =>
    cases he
    exact kk pc hok H locs ls cells slots hr hl hw hlc hc hs
  | goto off =>
    obtain ⟨hdg, tg, htg, hp⟩ := hok
    cases he
    exact lv_goto hx hb hdg htg (kk tg hp H locs ls cells slots hr hl hw hlc hc hs)
  | ifCond c off =>
    obtain ⟨hdg, hp3, tg, htg, hp⟩ := hok
    unfold bi_t at he
    dsimp only at he
    split at he
    · rename_i x st0
      cases he
      dsimp only at kk
      refine bi_if hx hb hdg htg (fun z => ?_) (fun z => ?_)
      · rw [if_pos z] at kk
        exact kk tg hp H locs ls cells slots hr hl hw hlc hc hs
      · rw [if_neg z] at kk
        exact kk (pc + 3) hp3 H locs ls cells slots hr hl hw hlc hc hs
    · cases he
  | if_icmp c off =>
    obtain ⟨hdg, hp3, tg, htg, hp⟩ := hok
    unfold bi_t at he
    dsimp only at he
    split at he
    · rename_i y x st0
      cases he
      dsimp only at kk
      refine bi_icmp hx hb hdg htg (fun z => ?_) (fun z => ?_)
      · rw [if_pos z] at kk
        exact kk tg hp H locs ls cells slots hr hl hw hlc hc hs
      · rw [if_neg z] at kk
        exact kk (pc + 3) hp3 H locs ls cells slots hr hl hw hlc hc hs
    · cases he
  | ifnull off =>
    obtain ⟨hdg, hp3, tg, htg, hp⟩ := hok
    unfold bi_t at he
    dsimp only at he
    split at he
    · rename_i a st0
      cases he
      dsimp only at kk
      cases a with
      | zero =>
        rw [if_pos rfl] at kk
        exact lv_ifnullN hx hb hdg htg (kk tg hp H locs ls cells slots hr hl hw hlc hc hs)
      | succ a =>
        rw [if_neg (Nat.succ_ne_zero a)] at kk
        exact lv_ifnull hx hb hdg (kk (pc + 3) hp3 H locs ls cells slots hr hl hw hlc hc hs)
    · cases he
  | ifnonnull off =>
    obtain ⟨hdg, hp3, tg, htg, hp⟩ := hok
    unfold bi_t at he
    dsimp only at he
    split at he
    · rename_i a st0
      cases he
      dsimp only at kk
      cases a with
      | zero =>
        rw [if_pos rfl] at kk
        exact lv_ifnonnullN hx hb hdg (kk (pc + 3) hp3 H locs ls cells slots hr hl hw hlc hc hs)
      | succ a =>
        rw [if_neg (Nat.succ_ne_zero a)] at kk
        exact lv_ifnonnull hx hb hdg htg (kk tg hp H locs ls cells slots hr hl hw hlc hc hs)
    · cases he
  | tableswitch df lo hi offs =>
    obtain ⟨⟨len, hdg⟩, ⟨tg, htg, hp⟩, hcs⟩ := hok
    unfold bi_t at he
    dsimp only at he
    split at he
    · rename_i x st0
      cases he
      dsimp only at kk
      by_cases hxx : x.toInt < lo ∨ hi < x.toInt
      · rw [if_pos hxx] at kk
        exact lv_tableOut hx hb hdg hxx htg (kk tg hp H locs ls cells slots hr hl hw hlc hc hs)
      · rw [if_neg hxx] at kk
        obtain ⟨off, tg2, ho, htg2, hp2⟩ := hcs (x.toInt - lo).toNat (by omega)
        exact lv_tableIn hx hb hdg (by omega) (by omega) ho htg2 (kk tg2 hp2 H locs ls cells slots hr hl hw hlc hc hs)
    · cases he
  | invokevirtual k => exact absurd rfl (hnc k)
  | ireturn =>
    unfold bi_t at he
    dsimp only at he
    repeat' (split at he)
    all_goals cases he
  | areturn =>
    unfold bi_t at he
    dsimp only at he
    repeat' (split at he)
    all_goals cases he
  | return_ =>
    unfold bi_t at he
    dsimp only at he
    repeat' (split at he)
    all_goals cases he
  | athrow =>
    unfold bi_t at he
    dsimp only at he
    repeat' (split at he)
    all_goals cases he
  | _ => cases he
/-- a method's own end -/
theorem bi_st_end {t : bi_I} {bs : List Nat} {ret : Option FieldType} {mi : Nat} {v : Option bi_V} {cf : Nat → List bi_V → bi_H → Option (bi_O × bi_H)} (hx : p.tables.exec = Jvm.exec) (hb : cd.code = cc) (hret : meth.sig.returnType = ret) (hlocks : meth.locks = false) (hok : bi_okt P mi cc ret pc t bs) (he : bi_t cf t bs L st h = some (.inl (.inl v, h'))) (hn0 : n0 ≤ bi_nc h') (hm0 : m0 ≤ bi_ns h') : bi_At p l e R s m args below meth cd (MQ below (bi_Qc D B0 Hb v h') args s (bi_nc h' - n0) (bi_ns h' - m0) (fun x => B0 ≤ x)) D B0 Hb nL n0 m0 pc L st h := by
  obtain ⟨i, r⟩ := t
  intro H locs ls cells slots hr hl hw hlc hc hs
  have hq : ∀ (o : Outcome) (t : State), o = .returned (v.map bi_tv) → h' = h → t.heap = H → s.WarmedH t.vm → bi_Qc D B0 Hb v h' args s o t := fun o t ho hh ht hW => by
    subst hh
    exact ⟨ho, by rw [ht]; exact hr.moved hW⟩
  cases i with
  | ireturn =>
    obtain ⟨hdg, hrt⟩ := hok
    unfold bi_t at he
    dsimp only at he
    split at he
    · rename_i x
      split at he
      · rename_i hx01
        cases he
        have e1 : cells = bi_nc h - n0 := by omega
        have e2 : slots = bi_ns h - m0 := by omega
        subst e1
        subst e2
        rcases hrt with ⟨ht0, hrt⟩ | ⟨ht0, hrt⟩
        · exact W.iret hx hb (by rw [hret]; exact hrt) (fun t ht hW => hq _ t rfl rfl ht hW) hlc hdg hlocks
        · have h01 : x = 0 ∨ x = 1 := hx01.resolve_left (by have ht0 : r.1 = 1 := ht0; show ¬ r.1 = 0; omega)
          exact W.zret hx hb (by rw [hret]; exact hrt) (bi_nar_z h01).1 (fun t ht hW => hq _ t rfl rfl ht hW) hlc hdg hlocks
      · cases he
    · cases he
  | areturn =>
    obtain ⟨hdg, rt, hrt, hir⟩ := hok
    unfold bi_t at he
    dsimp only at he
    split at he
    · rename_i a
      cases he
      have e1 : cells = bi_nc h - n0 := by omega
      have e2 : slots = bi_ns h - m0 := by omega
      subst e1
      subst e2
      have hrt2 : (∃ n, rt = .object n) ∨ ∃ t, rt = .array t := by
        cases rt <;> first | (simp [bi_isr] at hir; done) | exact Or.inl ⟨_, rfl⟩ | exact Or.inr ⟨_, rfl⟩
      have hv : bi_tr a = .null ∨ ∃ b, bi_tr a = .ref b := by
        cases a with
        | zero => exact Or.inl rfl
        | succ a => exact Or.inr ⟨a, rfl⟩
      exact W.aret hx hb (by rw [hret]; exact hrt) hrt2 hv (fun t ht hW => hq _ t rfl rfl ht hW) hlc hdg hlocks
    · cases he
  | return_ =>
    obtain ⟨hdg, hrt⟩ := hok
    unfold bi_t at he
    dsimp only at he
    split at he
    · cases he
      have e1 : cells = bi_nc h - n0 := by omega
      have e2 : slots = bi_ns h - m0 := by omega
      subst e1
      subst e2
      exact W.vret hx hb (by rw [hret]; exact hrt) (fun t ht hW => hq _ t rfl rfl ht hW) hlc hdg hlocks
    · cases he
  | athrow =>
    unfold bi_t at he
    dsimp only at he
    repeat' (split at he)
    all_goals cases he
  | _ =>
    unfold bi_t at he
    dsimp only at he
    repeat' (split at he)
    all_goals cases he
end BR
