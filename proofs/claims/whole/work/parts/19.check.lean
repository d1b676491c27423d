/-! the tables of the methods are checked by a function; what it says is what the runs want -/
/-- a word by its place: the list's number and the place in it -/
def bi_tw (p : Nat) : Option Cond := match p / 1000 with
  | 0 => (k2_sels lw_privs)[p % 1000]?
  | 1 => tables_1_1[p % 1000]?
  | 2 => tables_1_2[p % 1000]?
  | 3 => tables_1_3[p % 1000]?
  | 4 => tables_1_4[p % 1000]?
  | 5 => tables_1_5[p % 1000]?
  | 6 => tables_1_6[p % 1000]?
  | 7 => tables_1_7[p % 1000]?
  | _ => none
theorem bi_tw_in {p : Nat} {w : Cond} (h : bi_tw p = some w) : w ∈ lw_tbl := by
  show w ∈ k2_sels lw_privs ++ (tables_1_1 ++ (tables_1_2 ++ (tables_1_3 ++ (tables_1_4 ++ (tables_1_5 ++ (tables_1_6 ++ tables_1_7))))))
  simp only [List.mem_append]
  unfold bi_tw at h
  split at h
  · exact Or.inl (List.mem_of_getElem? h)
  · exact Or.inr (Or.inl (List.mem_of_getElem? h))
  · exact Or.inr (Or.inr (Or.inl (List.mem_of_getElem? h)))
  · exact Or.inr (Or.inr (Or.inr (Or.inl (List.mem_of_getElem? h))))
  · exact Or.inr (Or.inr (Or.inr (Or.inr (Or.inl (List.mem_of_getElem? h)))))
  · exact Or.inr (Or.inr (Or.inr (Or.inr (Or.inr (Or.inl (List.mem_of_getElem? h))))))
  · exact Or.inr (Or.inr (Or.inr (Or.inr (Or.inr (Or.inr (Or.inl (List.mem_of_getElem? h)))))))
  · exact Or.inr (Or.inr (Or.inr (Or.inr (Or.inr (Or.inr (Or.inr (List.mem_of_getElem? h)))))))
  · cases h
def bi_is (ps : List Nat) (i : Nat) (w : Cond) : Bool := decide (bi_tw (ps.getD i 9999) = some w)
theorem bi_is_in {ps : List Nat} {i : Nat} {w : Cond} (h : bi_is ps i w = true) : w ∈ lw_tbl := bi_tw_in (of_decide_eq_true h)
/-- a field's pool entry -/
def bi_flB (own : String) (k : Nat) (q : vw_C) (f : Nat) (ps : List Nat) : Bool := match bi_tw (ps.getD 0 9999) with
  | some (.fieldLinkNest a b c d e _) => decide (a = own ∧ b = k ∧ c = (q.2.1 f).1 ∧ d = (q.2.1 f).2.1 ∧ e = (q.2.1 f).2.2.1)
  | some w => decide (w = .fieldLink own k (q.2.1 f).1 (q.2.1 f).2.1 (q.2.1 f).2.2.1)
  | none => false
theorem bi_flB_ok {own : String} {k : Nat} {q : vw_C} {f : Nat} {ps : List Nat} (h : bi_flB own k q f ps = true) : bi_fl own k q f := by
  unfold bi_flB at h
  split at h
  · rename_i a b c d e host hw
    obtain ⟨rfl, rfl, rfl, rfl, rfl⟩ := of_decide_eq_true h
    exact Or.inr ⟨host, bi_tw_in hw⟩
  · rename_i w hw _
    have h := of_decide_eq_true h
    subst h
    exact Or.inl (bi_tw_in (by assumption))
  · cases h
def bi_okiB (own : String) (nL : Nat) (ini : Bool) (i : Instr) (r : bi_R) (ps : List Nat) : Bool := match i with
  | .bipush n => decide ((Int8.ofInt n).toInt32 = Int32.ofInt n)
  | .sipush n => decide ((Int16.ofInt n).toInt32 = Int32.ofInt n)
  | .ldc k => bi_is ps 0 (.constant own k (Int32.ofNat r.1))
  | .ldc_w k => bi_is ps 0 (.constant own k (Int32.ofNat r.1))
  | .istore_n k => decide (k.val < nL)
  | .istore k => decide (k < nL)
  | .astore_n k => decide (k.val < nL)
  | .astore k => decide (k < nL)
  | .iinc k _ => decide (k < nL)
  | .getfield k => (match vwCl[r.1]? with
    | some q => decide (r.2.1 < q.2.2) && (bi_flB own k q r.2.1 ps && decide (r.2.2.1 = bi_ft r.1 r.2.1))
    | none => false)
  | .putfield k => (match vwCl[r.1]? with
    | some q => decide (r.2.1 < q.2.2) && (bi_flB own k q r.2.1 ps && (decide (r.2.2.1 = bi_ft r.1 r.2.1) && (!(q.2.1 r.2.1).2.2.2 || (decide ((q.2.1 r.2.1).1 = own) && (ini && bi_is ps 0 (.fieldLink own k (q.2.1 r.2.1).1 (q.2.1 r.2.1).2.1 (q.2.1 r.2.1).2.2.1))))))
    | none => false)
  | .newarray t => bi_is ps 0 (.arrayClass (newarray.typeOf t))
  | .anewarray k => (match vwCl[r.1]? with
    | some q => bi_is ps 0 (.classLink own k q.1) && bi_is ps 1 (.arrayOver (.object q.1))
    | none => false)
  | .new k => (match vwCl[r.1]? with
    | some q => decide (r.2.1 = q.2.2) && (bi_is ps 0 (.classLink own k q.1) && (bi_is ps 1 (.instantiable q.1 q.2.2) && bi_is ps 2 (.initialized q.1)))
    | none => false)
  | .multianewarray k d => decide (d = 2) && (bi_is ps 0 (.classLink own k "[[I") && (bi_is ps 1 (.arrayOver (.array .int)) && bi_is ps 2 (.arrayClass .int)))
  | _ => true
theorem bi_okiB_ok {own : String} {nL : Nat} {ini : Bool} {i : Instr} {r : bi_R} {ps : List Nat} (h : bi_okiB own nL ini i r ps = true) : bi_oki own nL ini i r := by
  cases i with
  | bipush n =>
    have z : (Int8.ofInt n).toInt32 = Int32.ofInt n := of_decide_eq_true (show decide ((Int8.ofInt n).toInt32 = Int32.ofInt n) = true from h)
    exact z
  | sipush n =>
    have z : (Int16.ofInt n).toInt32 = Int32.ofInt n := of_decide_eq_true (show decide ((Int16.ofInt n).toInt32 = Int32.ofInt n) = true from h)
    exact z
  | ldc k => exact bi_is_in h
  | ldc_w k => exact bi_is_in h
  | istore_n k =>
    have z : k.val < nL := of_decide_eq_true (show decide (k.val < nL) = true from h)
    exact z
  | istore k =>
    have z : k < nL := of_decide_eq_true (show decide (k < nL) = true from h)
    exact z
  | astore_n k =>
    have z : k.val < nL := of_decide_eq_true (show decide (k.val < nL) = true from h)
    exact z
  | astore k =>
    have z : k < nL := of_decide_eq_true (show decide (k < nL) = true from h)
    exact z
  | iinc k v =>
    have z : k < nL := of_decide_eq_true (show decide (k < nL) = true from h)
    exact z
  | getfield k =>
    unfold bi_okiB at h
    dsimp only at h
    split at h
    · rename_i q hq
      simp only [Bool.and_eq_true] at h
      exact ⟨q, hq, of_decide_eq_true h.1, bi_flB_ok h.2.1, of_decide_eq_true h.2.2⟩
    · cases h
  | putfield k =>
    unfold bi_okiB at h
    dsimp only at h
    split at h
    · rename_i q hq
      simp only [Bool.and_eq_true, Bool.or_eq_true, Bool.not_eq_true'] at h
      refine ⟨q, hq, of_decide_eq_true h.1, bi_flB_ok h.2.1, of_decide_eq_true h.2.2.1, ?_⟩
      rcases h.2.2.2 with z | z
      · exact Or.inl z
      · exact Or.inr ⟨of_decide_eq_true z.1, z.2.1, bi_is_in z.2.2⟩
    · cases h
  | newarray t => exact bi_is_in h
  | anewarray k =>
    unfold bi_okiB at h
    dsimp only at h
    split at h
    · rename_i q hq
      simp only [Bool.and_eq_true] at h
      exact ⟨q, hq, bi_is_in h.1, bi_is_in h.2⟩
    · cases h
  | new k =>
    unfold bi_okiB at h
    dsimp only at h
    split at h
    · rename_i q hq
      simp only [Bool.and_eq_true] at h
      exact ⟨q, hq, of_decide_eq_true h.1, bi_is_in h.2.1, bi_is_in h.2.2.1, bi_is_in h.2.2.2⟩
    · cases h
  | multianewarray k d =>
    unfold bi_okiB at h
    dsimp only at h
    simp only [Bool.and_eq_true] at h
    exact ⟨of_decide_eq_true h.1, bi_is_in h.2.1, bi_is_in h.2.2.1, bi_is_in h.2.2.2⟩
  | _ => exact trivial
def bi_okbB (R : Room) (q : bi_M) (n : Nat) (ps : List Nat) : Bool := bi_is ps 0 (bi_cw q) && (bi_is ps 1 (.initialized q.1.cls) && (decide (q.1.cls ≠ "java/lang/invoke/MethodHandle" ∧ q.1.cls ≠ "java/lang/invoke/VarHandle") && (decide ((parseMethodDescriptor q.1.desc).map (fun d => d.parameters.length) = some n) && (decide (q.2.2.2.2.2.1 + 1 ≤ R.frames) && decide (8 + (q.2.2.1 + 11) + q.2.2.2.2.2.2.1 ≤ R.locals)))))
theorem bi_okbB_ok {R : Room} {q : bi_M} {n : Nat} {ps : List Nat} (h : bi_okbB R q n ps = true) : bi_okb R q n := by
  unfold bi_okbB at h
  simp only [Bool.and_eq_true] at h
  exact ⟨bi_is_in h.1, bi_is_in h.2.1, of_decide_eq_true h.2.2.1, of_decide_eq_true h.2.2.2.1, of_decide_eq_true h.2.2.2.2.1, of_decide_eq_true h.2.2.2.2.2⟩
def bi_okcB (M : Nat → Option bi_M) (own : String) (R : Room) (i : Instr) (r : bi_R) (ps : List Nat) : Bool := match i with
  | .invokestatic k => (match M r.1 with
    | some q => decide (r.2.1 ≤ q.2.2.1) && (bi_okbB R q r.2.1 ps && (bi_is ps 2 (.methodLink own k q.1) && bi_is ps 3 (.static q.1)))
    | none => false)
  | .invokevirtual k => (match M r.1, vwCl[r.2.2.1]? with
    | some q, some cq => decide (r.2.1 + 1 ≤ q.2.2.1) && (decide (q.2.2.2.2.2.2.2 = []) && (bi_okbB R q r.2.1 ps && (bi_is ps 2 (.methodLink own k q.1) && (bi_is ps 3 (.instanceMethod q.1) && bi_is ps 4 (.selects cq.1 q.1 q.1)))))
    | _, _ => false)
  | .invokespecial k => if r.1 = 9999 then bi_is ps 0 (.methodLink own k objectInit) && (bi_is ps 1 (.instanceMethod objectInit) && (bi_is ps 2 (.code objectInit ⟨#[0xb1]⟩ 1 none) && (decide (1 ≤ R.frames) && decide (20 ≤ R.locals))))
    else (match M r.1, vwCl[r.2.2.1]? with
    | some q, some _ => decide (r.2.1 + 1 ≤ q.2.2.1) && (decide (q.2.2.2.2.2.2.2 = []) && (bi_okbB R q r.2.1 ps && (decide (q.1.name = "<init>") && (decide (q.2.2.2.1 = none) && (bi_is ps 3 (.instanceMethod q.1) && (match bi_tw (ps.getD 2 9999) with
      | some (.methodLinkNest a b c _) => decide (a = own ∧ b = k ∧ c = q.1)
      | some w => decide (w = .methodLink own k q.1)
      | none => false))))))
    | _, _ => false)
  | _ => true
theorem bi_okcB_ok {M : Nat → Option bi_M} {own : String} {R : Room} {i : Instr} {r : bi_R} {ps : List Nat} (h : bi_okcB M own R i r ps = true) : bi_okc M own R i r := by
  cases i with
  | invokestatic k =>
    unfold bi_okcB at h
    dsimp only at h
    split at h
    · rename_i q hq
      simp only [Bool.and_eq_true] at h
      exact ⟨q, hq, of_decide_eq_true h.1, bi_okbB_ok h.2.1, bi_is_in h.2.2.1, bi_is_in h.2.2.2⟩
    · cases h
  | invokevirtual k =>
    unfold bi_okcB at h
    dsimp only at h
    split at h
    · rename_i q cq hq hcq
      simp only [Bool.and_eq_true] at h
      exact ⟨q, cq, hq, of_decide_eq_true h.1, of_decide_eq_true h.2.1, bi_okbB_ok h.2.2.1, hcq, bi_is_in h.2.2.2.1, bi_is_in h.2.2.2.2.1, bi_is_in h.2.2.2.2.2⟩
    · cases h
  | invokespecial k =>
    unfold bi_okcB at h
    unfold bi_okc
    dsimp only at h ⊢
    split at h
    · rename_i h9
      rw [if_pos h9]
      simp only [Bool.and_eq_true] at h
      exact ⟨bi_is_in h.1, bi_is_in h.2.1, bi_is_in h.2.2.1, of_decide_eq_true h.2.2.2.1, of_decide_eq_true h.2.2.2.2⟩
    · rename_i h9
      rw [if_neg h9]
      split at h
      · rename_i q cq hq hcq
        simp only [Bool.and_eq_true] at h
        refine ⟨q, cq, hq, of_decide_eq_true h.1, of_decide_eq_true h.2.1, bi_okbB_ok h.2.2.1, hcq, of_decide_eq_true h.2.2.2.1, of_decide_eq_true h.2.2.2.2.1, bi_is_in h.2.2.2.2.2.1, ?_⟩
        have h7 := h.2.2.2.2.2.2
        split at h7
        · rename_i a b c host hw
          obtain ⟨rfl, rfl, rfl⟩ := of_decide_eq_true h7
          exact Or.inr ⟨host, bi_tw_in hw⟩
        · rename_i w hw _
          have h7 := of_decide_eq_true h7
          subst h7
          exact Or.inl (bi_tw_in (by assumption))
        · cases h7
      · cases h
  | _ => exact trivial
def bi_okrB (M : Nat → Option bi_M) (own : String) (nL : Nat) (ini : Bool) (R : Room) (cc : ByteArray) : Nat → List bi_I → List (List Nat) → Bool
  | _, [], _ => true
  | pc, i :: is, cs => decide (decode cc pc = .ok (i.1, bi_len i.1)) && (bi_okiB own nL ini i.1 i.2 (cs.headD []) && (bi_okcB M own R i.1 i.2 (cs.headD []) && bi_okrB M own nL ini R cc (pc + bi_len i.1) is cs.tail))
theorem bi_okrB_ok {M : Nat → Option bi_M} {own : String} {nL : Nat} {ini : Bool} {R : Room} {cc : ByteArray} : ∀ (is : List bi_I) (pc : Nat) (cs : List (List Nat)), bi_okrB M own nL ini R cc pc is cs = true → bi_okr M own nL ini R cc pc is
  | [], _, _, _ => trivial
  | i :: is, pc, cs, h => by
    unfold bi_okrB at h
    simp only [Bool.and_eq_true] at h
    exact ⟨of_decide_eq_true h.1, bi_okiB_ok h.2.1, bi_okcB_ok h.2.2.1, bi_okrB_ok is _ _ h.2.2.2⟩
/-- where a jump goes -/
def bi_tgB (P : bi_P) (mi pc : Nat) (off : Int) (b : Nat) : Bool := decide ((pc : Int) + off = ((((pc : Int) + off).toNat : Nat) : Int)) && decide (bi_pc P mi b = some ((pc : Int) + off).toNat)
theorem bi_tgB_ok {P : bi_P} {mi pc : Nat} {off : Int} {b : Nat} (h : bi_tgB P mi pc off b = true) : ∃ tg : Nat, (pc : Int) + off = (tg : Int) ∧ bi_pc P mi b = some tg := by
  unfold bi_tgB at h
  simp only [Bool.and_eq_true] at h
  exact ⟨_, of_decide_eq_true h.1, of_decide_eq_true h.2⟩
def bi_oktB (P : bi_P) (mi : Nat) (cc : ByteArray) (ret : Option FieldType) (pc : Nat) (t : bi_I) (bs : List Nat) : Bool := match t.1 with
  | .nop => decide (bi_pc P mi (bs.getD 0 0) = some pc)
  | .goto off => decide (decode cc pc = .ok (.goto off, 3)) && bi_tgB P mi pc off (bs.getD 0 0)
  | .ifCond c off => decide (decode cc pc = .ok (.ifCond c off, 3)) && (decide (bi_pc P mi (bs.getD 1 0) = some (pc + 3)) && bi_tgB P mi pc off (bs.getD 0 0))
  | .if_icmp c off => decide (decode cc pc = .ok (.if_icmp c off, 3)) && (decide (bi_pc P mi (bs.getD 1 0) = some (pc + 3)) && bi_tgB P mi pc off (bs.getD 0 0))
  | .ifnull off => decide (decode cc pc = .ok (.ifnull off, 3)) && (decide (bi_pc P mi (bs.getD 1 0) = some (pc + 3)) && bi_tgB P mi pc off (bs.getD 0 0))
  | .ifnonnull off => decide (decode cc pc = .ok (.ifnonnull off, 3)) && (decide (bi_pc P mi (bs.getD 1 0) = some (pc + 3)) && bi_tgB P mi pc off (bs.getD 0 0))
  | .tableswitch df lo hi offs => (match decode cc pc with
    | .ok (i, _) => decide (i = .tableswitch df lo hi offs)
    | _ => false) && (bi_tgB P mi pc df (bs.getD 0 0) && (List.range (hi - lo + 1).toNat).all (fun k => match offs[k]? with
      | some off => bi_tgB P mi pc off (bs.getD (k + 1) 0)
      | none => false))
  | .ireturn => decide (decode cc pc = .ok (.ireturn, 1)) && decide ((t.2.1 = 0 ∧ ret = some .int) ∨ (t.2.1 = 1 ∧ ret = some .boolean))
  | .areturn => decide (decode cc pc = .ok (.areturn, 1)) && (match ret with
    | some rt => bi_isr rt
    | none => false)
  | .return_ => decide (decode cc pc = .ok (.return_, 1)) && decide (ret = none)
  | _ => true
theorem bi_oktB_ok {P : bi_P} {mi : Nat} {cc : ByteArray} {ret : Option FieldType} {pc : Nat} {t : bi_I} {bs : List Nat} (h : bi_oktB P mi cc ret pc t bs = true) : bi_okt P mi cc ret pc t bs := by
  obtain ⟨i, r⟩ := t
  cases i with
  | nop =>
    have z : bi_pc P mi (bs.getD 0 0) = some pc := of_decide_eq_true (show decide (bi_pc P mi (bs.getD 0 0) = some pc) = true from h)
    exact z
  | goto off =>
    unfold bi_oktB at h
    simp only [Bool.and_eq_true] at h
    exact ⟨of_decide_eq_true h.1, bi_tgB_ok h.2⟩
  | ifCond c off =>
    unfold bi_oktB at h
    simp only [Bool.and_eq_true] at h
    exact ⟨of_decide_eq_true h.1, of_decide_eq_true h.2.1, bi_tgB_ok h.2.2⟩
  | if_icmp c off =>
    unfold bi_oktB at h
    simp only [Bool.and_eq_true] at h
    exact ⟨of_decide_eq_true h.1, of_decide_eq_true h.2.1, bi_tgB_ok h.2.2⟩
  | ifnull off =>
    unfold bi_oktB at h
    simp only [Bool.and_eq_true] at h
    exact ⟨of_decide_eq_true h.1, of_decide_eq_true h.2.1, bi_tgB_ok h.2.2⟩
  | ifnonnull off =>
    unfold bi_oktB at h
    simp only [Bool.and_eq_true] at h
    exact ⟨of_decide_eq_true h.1, of_decide_eq_true h.2.1, bi_tgB_ok h.2.2⟩
  | tableswitch df lo hi offs =>
    unfold bi_oktB at h
    simp only [Bool.and_eq_true] at h
    obtain ⟨h1, h2, h3⟩ := h
    refine ⟨?_, bi_tgB_ok h2, fun k hk => ?_⟩
    · split at h1
      · rename_i i len hd
        have h1 := of_decide_eq_true h1
        subst h1
        exact ⟨len, hd⟩
      · cases h1
    · have h4 := List.all_eq_true.mp h3 k (List.mem_range.mpr hk)
      split at h4
      · rename_i off ho
        obtain ⟨tg, g1, g2⟩ := bi_tgB_ok h4
        exact ⟨off, tg, ho, g1, g2⟩
      · cases h4
  | ireturn =>
    unfold bi_oktB at h
    simp only [Bool.and_eq_true] at h
    exact ⟨of_decide_eq_true h.1, of_decide_eq_true h.2⟩
  | areturn =>
    unfold bi_oktB at h
    simp only [Bool.and_eq_true] at h
    refine ⟨of_decide_eq_true h.1, ?_⟩
    have h2 := h.2
    split at h2
    · rename_i rt
      exact ⟨rt, rfl, h2⟩
    · cases h2
  | return_ =>
    unfold bi_oktB at h
    simp only [Bool.and_eq_true] at h
    exact ⟨of_decide_eq_true h.1, of_decide_eq_true h.2⟩
  | _ => exact trivial
def bi_oktxB (own : String) (cc : ByteArray) (R : Room) (pc : Nat) (r : bi_R) : Bool := decide (own = RX9) && (decide (6 ≤ R.frames) && (decide (90 ≤ R.locals) && (bi_strs.any (fun q => decide (q.1 = r.2.2.1)) && (decide ((r.1 = 0 ∧ r.2.1 = 239 ∧ r.2.2.2 = 243) ∨ (r.1 = 1 ∧ r.2.1 = 252 ∧ r.2.2.2 = 256)) && (decide (decode cc pc = .ok (.new r.2.1, 3)) && (decide (decode cc (pc + 3) = .ok (.dup, 1)) &&
  ((decide (decode cc (pc + 4) = .ok (.ldc r.2.2.1, 2)) && (decide (decode cc (pc + 6) = .ok (.invokespecial r.2.2.2, 3)) && decide (decode cc (pc + 9) = .ok (.athrow, 1)))) || (decide (decode cc (pc + 4) = .ok (.ldc_w r.2.2.1, 3)) && (decide (decode cc (pc + 7) = .ok (.invokespecial r.2.2.2, 3)) && decide (decode cc (pc + 10) = .ok (.athrow, 1))))))))))) 
theorem bi_oktxB_ok {own : String} {cc : ByteArray} {R : Room} {pc : Nat} {r : bi_R} (h : bi_oktxB own cc R pc r = true) : bi_oktx own cc R pc r := by
  unfold bi_oktxB at h
  simp only [Bool.and_eq_true, Bool.or_eq_true] at h
  obtain ⟨h1, h2, h3, h4, h5, h6, h7, h8⟩ := h
  refine ⟨of_decide_eq_true h1, of_decide_eq_true h2, of_decide_eq_true h3, ?_, of_decide_eq_true h5, of_decide_eq_true h6, of_decide_eq_true h7, ?_⟩
  · obtain ⟨q, hq, hq2⟩ := List.any_eq_true.mp h4
    refine ⟨q.2, ?_⟩
    rw [← of_decide_eq_true hq2]
    exact hq
  · exact h8.imp (fun z => ⟨of_decide_eq_true z.1, of_decide_eq_true z.2.1, of_decide_eq_true z.2.2⟩) (fun z => ⟨of_decide_eq_true z.1, of_decide_eq_true z.2.1, of_decide_eq_true z.2.2⟩)
/-- a handler's row -/
def bi_hrB (P : bi_P) (mi : Nat) (cc : ByteArray) (pc k b : Nat) (a : Nat × Nat × Nat × Nat) : Bool := decide (a.1 ≤ pc ∧ pc < a.2.1) && (decide (a.2.2.2 ≠ 0) && (decide (decode cc a.2.2.1 = .ok (.astore k, 2)) && decide (bi_pc P mi b = some (a.2.2.1 + 2))))
def bi_oktyB (M : Nat → Option bi_M) (P : bi_P) (mi : Nat) (own : String) (nL : Nat) (R : Room) (cc : ByteArray) (hh : List (Nat × Nat × Nat × Nat)) (pc k : Nat) (r : bi_R) (bs : List Nat) (ps : List Nat) : Bool :=
  bi_okcB M own R (.invokevirtual k) r ps && (decide (decode cc pc = .ok (.invokevirtual k, 3)) && (decide (bi_pc P mi (bs.getD 0 0) = some (pc + 3)) && (decide (r.2.2.2 < nL) && (match hh with
    | [a] => decide (bs.length = 2) && (bi_hrB P mi cc pc r.2.2.2 (bs.getD 1 0) a && bi_is ps 5 (.classLink own a.2.2.2 (bi_en 0)))
    | [a, b] => decide (bs.length = 3) && (bi_hrB P mi cc pc r.2.2.2 (bs.getD 1 0) a && (bi_is ps 5 (.classLink own a.2.2.2 (bi_en 0)) && (bi_hrB P mi cc pc r.2.2.2 (bs.getD 2 0) b && bi_is ps 6 (.classLink own b.2.2.2 (bi_en 1)))))
    | _ => false))))
theorem bi_oktyB_ok {M : Nat → Option bi_M} {P : bi_P} {mi : Nat} {own : String} {nL : Nat} {R : Room} {cc : ByteArray} {hh : List (Nat × Nat × Nat × Nat)} {pc k : Nat} {r : bi_R} {bs ps : List Nat} (h : bi_oktyB M P mi own nL R cc hh pc k r bs ps = true) : bi_okty M P mi own nL R cc hh pc k r bs := by
  unfold bi_oktyB at h
  simp only [Bool.and_eq_true] at h
  obtain ⟨h1, h2, h3, h4, h5⟩ := h
  have hrow : ∀ {b : Nat} {a : Nat × Nat × Nat × Nat}, bi_hrB P mi cc pc r.2.2.2 b a = true → (a.1 ≤ pc ∧ pc < a.2.1) ∧ a.2.2.2 ≠ 0 ∧ decode cc a.2.2.1 = .ok (.astore r.2.2.2, 2) ∧ bi_pc P mi b = some (a.2.2.1 + 2) := fun {b a} z => by
    unfold bi_hrB at z
    simp only [Bool.and_eq_true] at z
    exact ⟨of_decide_eq_true z.1, of_decide_eq_true z.2.1, of_decide_eq_true z.2.2.1, of_decide_eq_true z.2.2.2⟩
  split at h5
  · rename_i a
    simp only [Bool.and_eq_true] at h5
    have hl := of_decide_eq_true h5.1
    obtain ⟨g1, g2, g3, g4⟩ := hrow h5.2.1
    exact ⟨bi_okcB_ok h1, of_decide_eq_true h2, of_decide_eq_true h3, by omega, of_decide_eq_true h4, fun _ => ⟨a, [], rfl, g1, g2, bi_is_in h5.2.2, g3, g4⟩, fun z => by omega⟩
  · rename_i a b
    simp only [Bool.and_eq_true] at h5
    have hl := of_decide_eq_true h5.1
    obtain ⟨g1, g2, g3, g4⟩ := hrow h5.2.1
    obtain ⟨f1, f2, f3, f4⟩ := hrow h5.2.2.2.1
    exact ⟨bi_okcB_ok h1, of_decide_eq_true h2, of_decide_eq_true h3, by omega, of_decide_eq_true h4, fun _ => ⟨a, [b], rfl, g1, g2, bi_is_in h5.2.2.1, g3, g4⟩, fun _ => ⟨a, b, [], rfl, g2, bi_is_in h5.2.2.1, f1, f2, bi_is_in h5.2.2.2.2, f3, f4⟩⟩
  · cases h5
def bi_okkB (M : Nat → Option bi_M) (P : bi_P) (mi : Nat) (q : bi_M) (k : bi_K) (cs : List (List Nat)) (ps : List Nat) : Bool :=
  bi_okrB M q.2.2.2.2.1 q.2.2.1 (decide (q.1.name = "<init>")) (bi_mr q) q.2.1 k.1 k.2.1 cs && (bi_oktB P mi q.2.1 q.2.2.2.1 (bi_end k.1 k.2.1) k.2.2.1 k.2.2.2 && (match k.2.2.1.1 with
    | .athrow => bi_oktxB q.2.2.2.2.1 q.2.1 (bi_mr q) (bi_end k.1 k.2.1) k.2.2.1.2
    | .invokevirtual i => bi_oktyB M P mi q.2.2.2.2.1 q.2.2.1 (bi_mr q) q.2.1 q.2.2.2.2.2.2.2 (bi_end k.1 k.2.1) i k.2.2.1.2 k.2.2.2 ps
    | _ => true))
theorem bi_okkB_ok {M : Nat → Option bi_M} {P : bi_P} {mi : Nat} {q : bi_M} {k : bi_K} {cs : List (List Nat)} {ps : List Nat} (h : bi_okkB M P mi q k cs ps = true) : bi_okk M P mi q k := by
  unfold bi_okkB at h
  simp only [Bool.and_eq_true] at h
  refine ⟨bi_okrB_ok _ _ _ h.1, bi_oktB_ok h.2.1, fun ha => ?_, fun i hi => ?_⟩
  · have h3 := h.2.2
    rw [ha] at h3
    exact bi_oktxB_ok h3
  · have h3 := h.2.2
    rw [hi] at h3
    exact bi_oktyB_ok h3
/-- the blocks of a method, each with its words' places -/
def bi_oksB (M : Nat → Option bi_M) (P : bi_P) (mi : Nat) (q : bi_M) : List bi_K → List (List (List Nat) × List Nat) → Bool
  | [], _ => true
  | k :: ks, cs => bi_okkB M P mi q k (cs.headD ([], [])).1 (cs.headD ([], [])).2 && bi_oksB M P mi q ks cs.tail
theorem bi_oksB_ok {M : Nat → Option bi_M} {P : bi_P} {mi : Nat} {q : bi_M} : ∀ (ks : List bi_K) (cs : List (List (List Nat) × List Nat)), bi_oksB M P mi q ks cs = true → ∀ k ∈ ks, bi_okk M P mi q k
  | [], _, _, k, hk => by cases hk
  | a :: ks, cs, h, k, hk => by
    unfold bi_oksB at h
    simp only [Bool.and_eq_true] at h
    rcases List.mem_cons.mp hk with rfl | hk
    · exact bi_okkB_ok h.1
    · exact bi_oksB_ok ks _ h.2 k hk
