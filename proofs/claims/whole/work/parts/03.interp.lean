/-! an interpreter of the instructions that class, reference and law use, over a heap of plain numbers; what it comes to is proved of the machine in the parts behind -/
/-- a value: an int, a reference (0: null; else the address and one), a long that is an int's -/
abbrev bi_V : Type := Int32 ⊕ (Nat ⊕ Int32)
abbrev bi_L : Type := List (Nat × bi_V)
/-- kinds (tag, length) by address; int fields and reference fields by class, field, address; int arrays' and reference arrays' contents; the next address; cells and slots made -/
abbrev bi_H : Type := (Nat → Nat × Nat) × (Nat → Nat → Nat → Int32) × (Nat → Nat → Nat → Nat) × (Nat → Nat → Int32) × (Nat → Nat → Nat) × Nat × Nat × Nat
def bi_k (h : bi_H) : Nat → Nat × Nat := h.1
def bi_fi (h : bi_H) : Nat → Nat → Nat → Int32 := h.2.1
def bi_fr (h : bi_H) : Nat → Nat → Nat → Nat := h.2.2.1
def bi_ai (h : bi_H) : Nat → Nat → Int32 := h.2.2.2.1
def bi_ar (h : bi_H) : Nat → Nat → Nat := h.2.2.2.2.1
def bi_nx (h : bi_H) : Nat := h.2.2.2.2.2.1
def bi_nc (h : bi_H) : Nat := h.2.2.2.2.2.2.1
def bi_ns (h : bi_H) : Nat := h.2.2.2.2.2.2.2
def bi_sfi (h : bi_H) (c k a : Nat) (v : Int32) : bi_H := (bi_k h, (fun c' k' a' => if c' = c ∧ k' = k ∧ a' = a then v else bi_fi h c' k' a'), bi_fr h, bi_ai h, bi_ar h, bi_nx h, bi_nc h, bi_ns h)
def bi_sfr (h : bi_H) (c k a : Nat) (v : Nat) : bi_H := (bi_k h, bi_fi h, (fun c' k' a' => if c' = c ∧ k' = k ∧ a' = a then v else bi_fr h c' k' a'), bi_ai h, bi_ar h, bi_nx h, bi_nc h, bi_ns h)
def bi_sai (h : bi_H) (a j : Nat) (v : Int32) : bi_H := (bi_k h, bi_fi h, bi_fr h, (fun a' j' => if a' = a ∧ j' = j then v else bi_ai h a' j'), bi_ar h, bi_nx h, bi_nc h, bi_ns h)
def bi_sar (h : bi_H) (a j : Nat) (v : Nat) : bi_H := (bi_k h, bi_fi h, bi_fr h, bi_ai h, (fun a' j' => if a' = a ∧ j' = j then v else bi_ar h a' j'), bi_nx h, bi_nc h, bi_ns h)
/-- a new cell of kind kd, its contents 0, null; s slots -/
def bi_new (h : bi_H) (kd : Nat × Nat) (s : Nat) : bi_H := ((fun a => if a = bi_nx h then kd else bi_k h a), (fun c k a => if a = bi_nx h then 0 else bi_fi h c k a), (fun c k a => if a = bi_nx h then 0 else bi_fr h c k a), (fun a j => if a = bi_nx h then 0 else bi_ai h a j), (fun a j => if a = bi_nx h then 0 else bi_ar h a j), bi_nx h + 1, bi_nc h + 1, bi_ns h + s)
/-- new int[n][m]: the outer array, then its rows -/
def bi_new2 (h : bi_H) (n m : Nat) : bi_H := ((fun a => if a = bi_nx h then (5, n) else if bi_nx h < a ∧ a ≤ bi_nx h + n then (1, m) else bi_k h a), (fun c k a => if bi_nx h ≤ a ∧ a ≤ bi_nx h + n then 0 else bi_fi h c k a), (fun c k a => if bi_nx h ≤ a ∧ a ≤ bi_nx h + n then 0 else bi_fr h c k a), (fun a j => if bi_nx h ≤ a ∧ a ≤ bi_nx h + n then 0 else bi_ai h a j), (fun a j => if a = bi_nx h then (if j < n then bi_nx h + 1 + j else 0) else if bi_nx h < a ∧ a ≤ bi_nx h + n then 0 else bi_ar h a j), bi_nx h + n + 1, bi_nc h + n + 1, bi_ns h + n + n * m)
def bi_st (L : bi_L) (i : Nat) (v : bi_V) : bi_L := (i, v) :: L.filter (fun q => !(q.1 == i))
def bi_w (v : bi_V) : Nat := match v with | .inr (.inr _) => 2 | _ => 1
def bi_ldi (L : bi_L) (i : Nat) (st : List bi_V) (h : bi_H) : Option (bi_L × List bi_V × bi_H) := match L.lookup i with
  | some (.inl x) => some (L, .inl x :: st, h)
  | _ => none
def bi_lda (L : bi_L) (i : Nat) (st : List bi_V) (h : bi_H) : Option (bi_L × List bi_V × bi_H) := match L.lookup i with
  | some (.inr (.inl a)) => some (L, .inr (.inl a) :: st, h)
  | _ => none
def bi_sti (L : bi_L) (i : Nat) (st : List bi_V) (h : bi_H) : Option (bi_L × List bi_V × bi_H) := match st with
  | .inl x :: st => some (bi_st L i (.inl x), st, h)
  | _ => none
def bi_sta (L : bi_L) (i : Nat) (st : List bi_V) (h : bi_H) : Option (bi_L × List bi_V × bi_H) := match st with
  | .inr (.inl a) :: st => some (bi_st L i (.inr (.inl a)), st, h)
  | _ => none
/-- an index within a length -/
def bi_in (j : Int32) (n : Nat) : Prop := ¬ j < 0 ∧ j.toNatClampNeg < n
theorem bi_in_dec (j : Int32) (n : Nat) : bi_in j n ↔ ¬ j < 0 ∧ j.toNatClampNeg < n := Iff.rfl
def bi_op2 (f : Int32 → Int32 → Int32) (L : bi_L) (st : List bi_V) (h : bi_H) : Option (bi_L × List bi_V × bi_H) := match st with
  | .inl y :: .inl x :: st => some (L, .inl (f x y) :: st, h)
  | _ => none
/-- behind a call -/
def bi_ret (L : bi_L) (rest : List bi_V) (o : Option (Option bi_V × bi_H)) : Option (bi_L × List bi_V × bi_H) := match o with
  | some (v, h) => some (L, v.toList ++ rest, h)
  | none => none
def bi_sum (st : List bi_V) : Nat := (st.map bi_w).sum
/-- a call with a receiver of class c -/
def bi_callo (cf : Nat → List bi_V → bi_H → Option (Option bi_V × bi_H)) (mi n c : Nat) (L : bi_L) (st : List bi_V) (h : bi_H) : Option (bi_L × List bi_V × bi_H) := match st.drop n with
  | .inr (.inl a) :: rest => if (bi_k h a).1 = 10 + c ∧ bi_sum rest ≤ 8 ∧ bi_sum (st.take n) = n then bi_ret L rest (cf mi (.inr (.inl a) :: (st.take n).reverse) h) else none
  | _ => none
def bi_calls (cf : Nat → List bi_V → bi_H → Option (Option bi_V × bi_H)) (mi n : Nat) (L : bi_L) (st : List bi_V) (h : bi_H) : Option (bi_L × List bi_V × bi_H) :=
  if n ≤ st.length ∧ bi_sum (st.drop n) ≤ 8 ∧ bi_sum (st.take n) = n then bi_ret L (st.drop n) (cf mi (st.take n).reverse h) else none
abbrev bi_R : Type := Nat × Nat × Nat × Nat
abbrev bi_I : Type := Instr × bi_R
/-- one instruction; r: what its pool entry is -/
def bi_x (cf : Nat → List bi_V → bi_H → Option (Option bi_V × bi_H)) (i : Instr) (r : bi_R) (L : bi_L) (st : List bi_V) (h : bi_H) : Option (bi_L × List bi_V × bi_H) :=
  match i with
  | .iconst n => some (L, .inl (Int32.ofInt n) :: st, h)
  | .bipush n => some (L, .inl (Int32.ofInt n) :: st, h)
  | .sipush n => some (L, .inl (Int32.ofInt n) :: st, h)
  | .ldc _ => some (L, .inl (Int32.ofNat r.1) :: st, h)
  | .ldc_w _ => some (L, .inl (Int32.ofNat r.1) :: st, h)
  | .aconst_null => some (L, .inr (.inl 0) :: st, h)
  | .iload_n n => bi_ldi L n.val st h
  | .iload n => bi_ldi L n st h
  | .aload_n n => bi_lda L n.val st h
  | .aload n => bi_lda L n st h
  | .istore_n n => bi_sti L n.val st h
  | .istore n => bi_sti L n st h
  | .astore_n n => bi_sta L n.val st h
  | .astore n => bi_sta L n st h
  | .iinc n v => (match L.lookup n with
    | some (.inl x) => some (bi_st L n (.inl (x + Int32.ofInt v)), st, h)
    | _ => none)
  | .iadd => bi_op2 (fun x y => x + y) L st h
  | .isub => bi_op2 (fun x y => x - y) L st h
  | .imul => bi_op2 (fun x y => x * y) L st h
  | .iand => bi_op2 (fun x y => x &&& y) L st h
  | .ixor => bi_op2 (fun x y => x ^^^ y) L st h
  | .idiv => (match st with
    | .inl y :: .inl x :: st => if y = 0 then none else some (L, .inl (x / y) :: st, h)
    | _ => none)
  | .irem => (match st with
    | .inl y :: .inl x :: st => if y = 0 then none else some (L, .inl (x - x / y * y) :: st, h)
    | _ => none)
  | .i2l => (match st with
    | .inl x :: st => some (L, .inr (.inr x) :: st, h)
    | _ => none)
  | .lcmp => (match st with
    | .inr (.inr y) :: .inr (.inr x) :: st => some (L, .inl (if y < x then 1 else if x = y then 0 else -1) :: st, h)
    | _ => none)
  | .dup => (match st with
    | v :: st => if bi_w v = 1 then some (L, v :: v :: st, h) else none
    | _ => none)
  | .dup2 => (match st with
    | v :: w :: st => if bi_w v = 1 ∧ bi_w w = 1 then some (L, v :: w :: v :: w :: st, h) else none
    | _ => none)
  | .getfield _ => (match st with
    | .inr (.inl a) :: st => if (bi_k h a).1 = 10 + r.1 then some (L, (if r.2.2.1 = 1 then .inr (.inl (bi_fr h r.1 r.2.1 a)) else .inl (bi_fi h r.1 r.2.1 a)) :: st, h) else none
    | _ => none)
  | .putfield _ => (match st with
    | .inl x :: .inr (.inl a) :: st => if (bi_k h a).1 = 10 + r.1 ∧ (r.2.2.1 = 0 ∨ (r.2.2.1 = 2 ∧ (x = 0 ∨ x = 1))) then some (L, st, bi_sfi h r.1 r.2.1 a x) else none
    | .inr (.inl b) :: .inr (.inl a) :: st => if (bi_k h a).1 = 10 + r.1 ∧ r.2.2.1 = 1 then some (L, st, bi_sfr h r.1 r.2.1 a b) else none
    | _ => none)
  | .iaload => (match st with
    | .inl j :: .inr (.inl a) :: st => if ((bi_k h a).1 = 1 ∨ (bi_k h a).1 = 4) ∧ ¬ j < 0 ∧ j.toNatClampNeg < (bi_k h a).2 then some (L, .inl (bi_ai h a j.toNatClampNeg) :: st, h) else none
    | _ => none)
  | .baload => (match st with
    | .inl j :: .inr (.inl a) :: st => if (bi_k h a).1 = 2 ∧ ¬ j < 0 ∧ j.toNatClampNeg < (bi_k h a).2 then some (L, .inl (bi_ai h a j.toNatClampNeg) :: st, h) else none
    | _ => none)
  | .laload => (match st with
    | .inl j :: .inr (.inl a) :: st => if (bi_k h a).1 = 3 ∧ ¬ j < 0 ∧ j.toNatClampNeg < (bi_k h a).2 then some (L, .inr (.inr (bi_ai h a j.toNatClampNeg)) :: st, h) else none
    | _ => none)
  | .aaload => (match st with
    | .inl j :: .inr (.inl a) :: st => if ((bi_k h a).1 = 5 ∨ (40 ≤ (bi_k h a).1 ∧ (bi_k h a).1 < 53)) ∧ ¬ j < 0 ∧ j.toNatClampNeg < (bi_k h a).2 then some (L, .inr (.inl (bi_ar h a j.toNatClampNeg)) :: st, h) else none
    | _ => none)
  | .iastore => (match st with
    | .inl x :: .inl j :: .inr (.inl a) :: st => if (bi_k h a).1 = 1 ∧ ¬ j < 0 ∧ j.toNatClampNeg < (bi_k h a).2 then some (L, st, bi_sai h a j.toNatClampNeg x) else none
    | _ => none)
  | .bastore => (match st with
    | .inl x :: .inl j :: .inr (.inl a) :: st => if (bi_k h a).1 = 2 ∧ (x = 0 ∨ x = 1) ∧ ¬ j < 0 ∧ j.toNatClampNeg < (bi_k h a).2 then some (L, st, bi_sai h a j.toNatClampNeg x) else none
    | _ => none)
  | .lastore => (match st with
    | .inr (.inr x) :: .inl j :: .inr (.inl a) :: st => if (bi_k h a).1 = 3 ∧ ¬ j < 0 ∧ j.toNatClampNeg < (bi_k h a).2 then some (L, st, bi_sai h a j.toNatClampNeg x) else none
    | _ => none)
  | .aastore => (match st with
    | .inr (.inl b) :: .inl j :: .inr (.inl a) :: st => if (40 ≤ (bi_k h a).1 ∧ (bi_k h a).1 < 53) ∧ (b = 0 ∨ (bi_k h b).1 + 30 = (bi_k h a).1) ∧ ¬ j < 0 ∧ j.toNatClampNeg < (bi_k h a).2 then some (L, st, bi_sar h a j.toNatClampNeg b) else none
    | _ => none)
  | .arraylength => (match st with
    | .inr (.inl a) :: st => if (1 ≤ (bi_k h a).1 ∧ (bi_k h a).1 ≤ 5) ∨ (40 ≤ (bi_k h a).1 ∧ (bi_k h a).1 < 53) then some (L, .inl (Int32.ofNat (bi_k h a).2) :: st, h) else none
    | _ => none)
  | .newarray t => (match st with
    | .inl n :: st => if ¬ n < 0 ∧ n.toNatClampNeg ≤ 1000000 ∧ (t = .int ∨ t = .boolean ∨ t = .long) then some (L, .inr (.inl (bi_nx h)) :: st, bi_new h (if t = .int then 1 else if t = .boolean then 2 else 3, n.toNatClampNeg) n.toNatClampNeg) else none
    | _ => none)
  | .anewarray _ => (match st with
    | .inl n :: st => if ¬ n < 0 ∧ n.toNatClampNeg ≤ 1000000 then some (L, .inr (.inl (bi_nx h)) :: st, bi_new h (40 + r.1, n.toNatClampNeg) n.toNatClampNeg) else none
    | _ => none)
  | .multianewarray _ _ => (match st with
    | .inl m :: .inl n :: st => if ¬ n < 0 ∧ n.toNatClampNeg ≤ 1000 ∧ ¬ m < 0 ∧ m.toNatClampNeg ≤ 100000 then some (L, .inr (.inl (bi_nx h)) :: st, bi_new2 h n.toNatClampNeg m.toNatClampNeg) else none
    | _ => none)
  | .new _ => some (L, .inr (.inl (bi_nx h)) :: st, bi_new h (10 + r.1, 0) r.2.1)
  | .invokestatic _ => bi_calls cf r.1 r.2.1 L st h
  | .invokevirtual _ => bi_callo cf r.1 r.2.1 r.2.2.1 L st h
  | .invokespecial _ => if r.1 = 9999 then (match st with
    | .inr (.inl a) :: st => if (bi_k h a).1 ≠ 0 ∧ bi_sum st ≤ 8 then some (L, st, h) else none
    | _ => none) else bi_callo cf r.1 r.2.1 r.2.2.1 L st h
  | _ => none
def bi_xs (cf : Nat → List bi_V → bi_H → Option (Option bi_V × bi_H)) : List bi_I → bi_L → List bi_V → bi_H → Option (bi_L × List bi_V × bi_H)
  | [], L, st, h => some (L, st, h)
  | i :: is, L, st, h => match bi_x cf i.1 i.2 L st h with
    | none => none
    | some q => bi_xs cf is q.1 q.2.1 q.2.2
/-- a block: where it begins, its instructions, how it ends, where it goes on -/
abbrev bi_K : Type := Nat × List bi_I × bi_I × List Nat
abbrev bi_P : Type := Nat → Nat → Option bi_K
abbrev bi_O : Type := Option bi_V ⊕ Nat
def bi_c (c : ClassFile.Cond) (x y : Int32) : Bool := match c with
  | .eq => decide (x = y)
  | .ne => decide (¬ x = y)
  | .lt => decide (x < y)
  | .ge => decide (y ≤ x)
  | .gt => decide (y < x)
  | .le => decide (x ≤ y)
def bi_loc (as : List bi_V) : bi_L := as.zipIdx.map (fun q => (q.2, q.1))
/-- the end of a block: an answer, or the next block -/
def bi_t (cf : Nat → List bi_V → bi_H → Option (bi_O × bi_H)) (t : bi_I) (bs : List Nat) (L : bi_L) (st : List bi_V) (h : bi_H) : Option ((bi_O × bi_H) ⊕ (Nat × bi_L × List bi_V × bi_H)) :=
  match t.1 with
  | .nop => some (.inr (bs.getD 0 0, L, st, h))
  | .goto _ => some (.inr (bs.getD 0 0, L, st, h))
  | .ifCond c _ => (match st with
    | .inl x :: st => some (.inr (if bi_c c x 0 = true then bs.getD 0 0 else bs.getD 1 0, L, st, h))
    | _ => none)
  | .if_icmp c _ => (match st with
    | .inl y :: .inl x :: st => some (.inr (if bi_c c x y = true then bs.getD 0 0 else bs.getD 1 0, L, st, h))
    | _ => none)
  | .ifnull _ => (match st with
    | .inr (.inl a) :: st => some (.inr (if a = 0 then bs.getD 0 0 else bs.getD 1 0, L, st, h))
    | _ => none)
  | .ifnonnull _ => (match st with
    | .inr (.inl a) :: st => some (.inr (if a = 0 then bs.getD 1 0 else bs.getD 0 0, L, st, h))
    | _ => none)
  | .tableswitch _ lo hi _ => (match st with
    | .inl x :: st => some (.inr (if x.toInt < lo ∨ hi < x.toInt then bs.getD 0 0 else bs.getD ((x.toInt - lo).toNat + 1) 0, L, st, h))
    | _ => none)
  | .ireturn => (match st with
    | [.inl x] => if t.2.1 = 0 ∨ x = 0 ∨ x = 1 then some (.inl (.inl (some (.inl x)), h)) else none
    | _ => none)
  | .areturn => (match st with
    | [.inr (.inl a)] => some (.inl (.inl (some (.inr (.inl a))), h))
    | _ => none)
  | .return_ => (match st with
    | [] => some (.inl (.inl none, h))
    | _ => none)
  | .athrow => (match st with
    | [] => some (.inl (.inr t.2.1, bi_new h (0, 0) 6))
    | _ => none)
  | .invokevirtual _ => (match st.drop t.2.2.1 with
    | .inr (.inl a) :: rest => if (bi_k h a).1 = 10 + t.2.2.2.1 ∧ bi_sum rest ≤ 8 ∧ bi_sum (st.take t.2.2.1) = t.2.2.1 then (match cf t.2.1 (.inr (.inl a) :: (st.take t.2.2.1).reverse) h with
      | some (.inl v, h') => some (.inr (bs.getD 0 0, L, v.toList ++ rest, h'))
      | some (.inr e, h') => if e + 1 < bs.length then some (.inr (bs.getD (e + 1) 0, L.filter (fun q => !(q.1 == t.2.2.2.2)), [], h')) else none
      | none => none) else none
    | _ => none)
  | _ => none
/-- n blocks, calls' blocks among them -/
def bi_run (P : bi_P) : Nat → Nat → Nat → bi_L → List bi_V → bi_H → Option (bi_O × bi_H)
  | 0, _, _, _, _, _ => none
  | n + 1, mi, b, L, st, h => match P mi b with
    | none => none
    | some q => match bi_xs (fun m as h => match bi_run P n m 0 (bi_loc as) [] h with
        | some (.inl v, h') => some (v, h')
        | _ => none) q.2.1 L st h with
      | none => none
      | some z => match bi_t (fun m as h => bi_run P n m 0 (bi_loc as) [] h) q.2.2.1 q.2.2.2 z.1 z.2.1 z.2.2 with
        | none => none
        | some (.inl o) => some o
        | some (.inr w) => bi_run P n mi w.1 w.2.1 w.2.2.1 w.2.2.2
