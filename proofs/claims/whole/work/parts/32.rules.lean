/-! the calculus, a row an instruction -/
def bw_gi (o : Option bi_V) (f : Int32 → Prop) : Prop := match o with
  | some (.inl x) => f x
  | _ => False
def bw_ga (o : Option bi_V) (f : Nat → Prop) : Prop := match o with
  | some (.inr (.inl x)) => f x
  | _ => False
def bw_go (o : List bi_V) (f : Nat → List bi_V → Prop) : Prop := match o with
  | .inr (.inl a) :: rest => f a rest
  | _ => False
theorem bw_gi_s (x : Int32) (f : Int32 → Prop) : bw_gi (some (.inl x)) f = f x := rfl
theorem bw_ga_s (x : Nat) (f : Nat → Prop) : bw_ga (some (.inr (.inl x))) f = f x := rfl
theorem bw_go_s (x : Nat) (st : List bi_V) (f : Nat → List bi_V → Prop) : bw_go (.inr (.inl x) :: st) f = f x st := rfl
theorem bw_w_i (x : Int32) : bi_w (.inl x) = 1 := rfl
theorem bw_w_a (x : Nat) : bi_w (.inr (.inl x)) = 1 := rfl
theorem bw_w_l (x : Int32) : bi_w (.inr (.inr x)) = 2 := rfl
theorem bw_sum_n : bi_sum [] = 0 := rfl
theorem bw_sum_c (v : bi_V) (st : List bi_V) : bi_sum (v :: st) = bi_w v + bi_sum st := by simp [bi_sum]
theorem bw_loc_1 (as : List bi_V) : bi_loc as = as.zipIdx.map (fun q => (q.2, q.1)) := rfl
theorem bw_xs_n (P : bi_P) (L : bi_L) (st : List bi_V) (h : bi_H) (K : bw_K) : bw_xs P [] L st h K = K L st h := rfl
section BW
variable {P : bi_P} {is : List bi_I} {L : bi_L} {st : List bi_V} {h : bi_H} {K : bw_K} {r : bi_R} {Q : bw_Q} {B : Nat → bw_K} {bs : List Nat}
theorem bw_iconst {z : Int} : bw_xs P ((.iconst z, r) :: is) L st h K ↔ bw_xs P is L (.inl (Int32.ofInt z) :: st) h K := ⟨fun ⟨_, e, k⟩ => by cases e; exact k, fun k => ⟨_, rfl, k⟩⟩
theorem bw_bipush {z : Int} : bw_xs P ((.bipush z, r) :: is) L st h K ↔ bw_xs P is L (.inl (Int32.ofInt z) :: st) h K := ⟨fun ⟨_, e, k⟩ => by cases e; exact k, fun k => ⟨_, rfl, k⟩⟩
theorem bw_sipush {z : Int} : bw_xs P ((.sipush z, r) :: is) L st h K ↔ bw_xs P is L (.inl (Int32.ofInt z) :: st) h K := ⟨fun ⟨_, e, k⟩ => by cases e; exact k, fun k => ⟨_, rfl, k⟩⟩
theorem bw_ldc {z : Nat} : bw_xs P ((.ldc z, r) :: is) L st h K ↔ bw_xs P is L (.inl (Int32.ofNat r.1) :: st) h K := ⟨fun ⟨_, e, k⟩ => by cases e; exact k, fun k => ⟨_, rfl, k⟩⟩
theorem bw_ldc_w {z : Nat} : bw_xs P ((.ldc_w z, r) :: is) L st h K ↔ bw_xs P is L (.inl (Int32.ofNat r.1) :: st) h K := ⟨fun ⟨_, e, k⟩ => by cases e; exact k, fun k => ⟨_, rfl, k⟩⟩
theorem bw_anull : bw_xs P ((.aconst_null, r) :: is) L st h K ↔ bw_xs P is L (.inr (.inl 0) :: st) h K := ⟨fun ⟨_, e, k⟩ => by cases e; exact k, fun k => ⟨_, rfl, k⟩⟩
theorem bw_iload0 : bw_xs P ((.iload_n 0, r) :: is) L st h K ↔ bw_gi (L.lookup 0) (fun x => bw_xs P is L (.inl x :: st) h K) := by
  constructor
  · rintro ⟨q, e, k⟩
    have e : bi_ldi L 0 st h = some q := e
    unfold bi_ldi at e
    split at e
    · rename_i x hx
      cases e
      rw [hx]
      exact k
    · cases e
  · intro k
    unfold bw_gi at k
    split at k
    · rename_i x hx
      refine ⟨(L, .inl x :: st, h), ?_, k⟩
      show bi_ldi L 0 st h = _
      unfold bi_ldi
      rw [hx]
    · exact k.elim
theorem bw_aload0 : bw_xs P ((.aload_n 0, r) :: is) L st h K ↔ bw_ga (L.lookup 0) (fun x => bw_xs P is L (.inr (.inl x) :: st) h K) := by
  constructor
  · rintro ⟨q, e, k⟩
    have e : bi_lda L 0 st h = some q := e
    unfold bi_lda at e
    split at e
    · rename_i x hx
      cases e
      rw [hx]
      exact k
    · cases e
  · intro k
    unfold bw_ga at k
    split at k
    · rename_i x hx
      refine ⟨(L, .inr (.inl x) :: st, h), ?_, k⟩
      show bi_lda L 0 st h = _
      unfold bi_lda
      rw [hx]
    · exact k.elim
theorem bw_istore0 {x : Int32} : bw_xs P ((.istore_n 0, r) :: is) L (.inl x :: st) h K ↔ bw_xs P is (bi_st L 0 (.inl x)) st h K := ⟨fun ⟨_, e, k⟩ => by cases e; exact k, fun k => ⟨_, rfl, k⟩⟩
theorem bw_astore0 {x : Nat} : bw_xs P ((.astore_n 0, r) :: is) L (.inr (.inl x) :: st) h K ↔ bw_xs P is (bi_st L 0 (.inr (.inl x))) st h K := ⟨fun ⟨_, e, k⟩ => by cases e; exact k, fun k => ⟨_, rfl, k⟩⟩
theorem bw_iload1 : bw_xs P ((.iload_n 1, r) :: is) L st h K ↔ bw_gi (L.lookup 1) (fun x => bw_xs P is L (.inl x :: st) h K) := by
  constructor
  · rintro ⟨q, e, k⟩
    have e : bi_ldi L 1 st h = some q := e
    unfold bi_ldi at e
    split at e
    · rename_i x hx
      cases e
      rw [hx]
      exact k
    · cases e
  · intro k
    unfold bw_gi at k
    split at k
    · rename_i x hx
      refine ⟨(L, .inl x :: st, h), ?_, k⟩
      show bi_ldi L 1 st h = _
      unfold bi_ldi
      rw [hx]
    · exact k.elim
theorem bw_aload1 : bw_xs P ((.aload_n 1, r) :: is) L st h K ↔ bw_ga (L.lookup 1) (fun x => bw_xs P is L (.inr (.inl x) :: st) h K) := by
  constructor
  · rintro ⟨q, e, k⟩
    have e : bi_lda L 1 st h = some q := e
    unfold bi_lda at e
    split at e
    · rename_i x hx
      cases e
      rw [hx]
      exact k
    · cases e
  · intro k
    unfold bw_ga at k
    split at k
    · rename_i x hx
      refine ⟨(L, .inr (.inl x) :: st, h), ?_, k⟩
      show bi_lda L 1 st h = _
      unfold bi_lda
      rw [hx]
    · exact k.elim
theorem bw_istore1 {x : Int32} : bw_xs P ((.istore_n 1, r) :: is) L (.inl x :: st) h K ↔ bw_xs P is (bi_st L 1 (.inl x)) st h K := ⟨fun ⟨_, e, k⟩ => by cases e; exact k, fun k => ⟨_, rfl, k⟩⟩
theorem bw_astore1 {x : Nat} : bw_xs P ((.astore_n 1, r) :: is) L (.inr (.inl x) :: st) h K ↔ bw_xs P is (bi_st L 1 (.inr (.inl x))) st h K := ⟨fun ⟨_, e, k⟩ => by cases e; exact k, fun k => ⟨_, rfl, k⟩⟩
theorem bw_iload2 : bw_xs P ((.iload_n 2, r) :: is) L st h K ↔ bw_gi (L.lookup 2) (fun x => bw_xs P is L (.inl x :: st) h K) := by
  constructor
  · rintro ⟨q, e, k⟩
    have e : bi_ldi L 2 st h = some q := e
    unfold bi_ldi at e
    split at e
    · rename_i x hx
      cases e
      rw [hx]
      exact k
    · cases e
  · intro k
    unfold bw_gi at k
    split at k
    · rename_i x hx
      refine ⟨(L, .inl x :: st, h), ?_, k⟩
      show bi_ldi L 2 st h = _
      unfold bi_ldi
      rw [hx]
    · exact k.elim
theorem bw_aload2 : bw_xs P ((.aload_n 2, r) :: is) L st h K ↔ bw_ga (L.lookup 2) (fun x => bw_xs P is L (.inr (.inl x) :: st) h K) := by
  constructor
  · rintro ⟨q, e, k⟩
    have e : bi_lda L 2 st h = some q := e
    unfold bi_lda at e
    split at e
    · rename_i x hx
      cases e
      rw [hx]
      exact k
    · cases e
  · intro k
    unfold bw_ga at k
    split at k
    · rename_i x hx
      refine ⟨(L, .inr (.inl x) :: st, h), ?_, k⟩
      show bi_lda L 2 st h = _
      unfold bi_lda
      rw [hx]
    · exact k.elim
theorem bw_istore2 {x : Int32} : bw_xs P ((.istore_n 2, r) :: is) L (.inl x :: st) h K ↔ bw_xs P is (bi_st L 2 (.inl x)) st h K := ⟨fun ⟨_, e, k⟩ => by cases e; exact k, fun k => ⟨_, rfl, k⟩⟩
theorem bw_astore2 {x : Nat} : bw_xs P ((.astore_n 2, r) :: is) L (.inr (.inl x) :: st) h K ↔ bw_xs P is (bi_st L 2 (.inr (.inl x))) st h K := ⟨fun ⟨_, e, k⟩ => by cases e; exact k, fun k => ⟨_, rfl, k⟩⟩
theorem bw_iload3 : bw_xs P ((.iload_n 3, r) :: is) L st h K ↔ bw_gi (L.lookup 3) (fun x => bw_xs P is L (.inl x :: st) h K) := by
  constructor
  · rintro ⟨q, e, k⟩
    have e : bi_ldi L 3 st h = some q := e
    unfold bi_ldi at e
    split at e
    · rename_i x hx
      cases e
      rw [hx]
      exact k
    · cases e
  · intro k
    unfold bw_gi at k
    split at k
    · rename_i x hx
      refine ⟨(L, .inl x :: st, h), ?_, k⟩
      show bi_ldi L 3 st h = _
      unfold bi_ldi
      rw [hx]
    · exact k.elim
theorem bw_aload3 : bw_xs P ((.aload_n 3, r) :: is) L st h K ↔ bw_ga (L.lookup 3) (fun x => bw_xs P is L (.inr (.inl x) :: st) h K) := by
  constructor
  · rintro ⟨q, e, k⟩
    have e : bi_lda L 3 st h = some q := e
    unfold bi_lda at e
    split at e
    · rename_i x hx
      cases e
      rw [hx]
      exact k
    · cases e
  · intro k
    unfold bw_ga at k
    split at k
    · rename_i x hx
      refine ⟨(L, .inr (.inl x) :: st, h), ?_, k⟩
      show bi_lda L 3 st h = _
      unfold bi_lda
      rw [hx]
    · exact k.elim
theorem bw_istore3 {x : Int32} : bw_xs P ((.istore_n 3, r) :: is) L (.inl x :: st) h K ↔ bw_xs P is (bi_st L 3 (.inl x)) st h K := ⟨fun ⟨_, e, k⟩ => by cases e; exact k, fun k => ⟨_, rfl, k⟩⟩
theorem bw_astore3 {x : Nat} : bw_xs P ((.astore_n 3, r) :: is) L (.inr (.inl x) :: st) h K ↔ bw_xs P is (bi_st L 3 (.inr (.inl x))) st h K := ⟨fun ⟨_, e, k⟩ => by cases e; exact k, fun k => ⟨_, rfl, k⟩⟩
theorem bw_iload {n : Nat} : bw_xs P ((.iload n, r) :: is) L st h K ↔ bw_gi (L.lookup n) (fun x => bw_xs P is L (.inl x :: st) h K) := by
  constructor
  · rintro ⟨q, e, k⟩
    have e : bi_ldi L n st h = some q := e
    unfold bi_ldi at e
    split at e
    · rename_i x hx
      cases e
      rw [hx]
      exact k
    · cases e
  · intro k
    unfold bw_gi at k
    split at k
    · rename_i x hx
      refine ⟨(L, .inl x :: st, h), ?_, k⟩
      show bi_ldi L n st h = _
      unfold bi_ldi
      rw [hx]
    · exact k.elim
theorem bw_aload {n : Nat} : bw_xs P ((.aload n, r) :: is) L st h K ↔ bw_ga (L.lookup n) (fun x => bw_xs P is L (.inr (.inl x) :: st) h K) := by
  constructor
  · rintro ⟨q, e, k⟩
    have e : bi_lda L n st h = some q := e
    unfold bi_lda at e
    split at e
    · rename_i x hx
      cases e
      rw [hx]
      exact k
    · cases e
  · intro k
    unfold bw_ga at k
    split at k
    · rename_i x hx
      refine ⟨(L, .inr (.inl x) :: st, h), ?_, k⟩
      show bi_lda L n st h = _
      unfold bi_lda
      rw [hx]
    · exact k.elim
theorem bw_istore {n : Nat} {x : Int32} : bw_xs P ((.istore n, r) :: is) L (.inl x :: st) h K ↔ bw_xs P is (bi_st L n (.inl x)) st h K := ⟨fun ⟨_, e, k⟩ => by cases e; exact k, fun k => ⟨_, rfl, k⟩⟩
theorem bw_astore {n x : Nat} : bw_xs P ((.astore n, r) :: is) L (.inr (.inl x) :: st) h K ↔ bw_xs P is (bi_st L n (.inr (.inl x))) st h K := ⟨fun ⟨_, e, k⟩ => by cases e; exact k, fun k => ⟨_, rfl, k⟩⟩
theorem bw_iinc {n : Nat} {v : Int} : bw_xs P ((.iinc n v, r) :: is) L st h K ↔ bw_gi (L.lookup n) (fun x => bw_xs P is (bi_st L n (.inl (x + Int32.ofInt v))) st h K) := by
  constructor
  · rintro ⟨q, e, k⟩
    unfold bi_x at e
    dsimp only at e
    split at e
    · rename_i x hx
      cases e
      rw [hx]
      exact k
    · cases e
  · intro k
    unfold bw_gi at k
    split at k
    · rename_i x hx
      refine ⟨(bi_st L n (.inl (x + Int32.ofInt v)), st, h), ?_, k⟩
      unfold bi_x
      dsimp only
      rw [hx]
    · exact k.elim
theorem bw_iadd {x y : Int32} : bw_xs P ((.iadd, r) :: is) L (.inl y :: .inl x :: st) h K ↔ bw_xs P is L (.inl (x + y) :: st) h K := ⟨fun ⟨_, e, k⟩ => by cases e; exact k, fun k => ⟨_, rfl, k⟩⟩
theorem bw_isub {x y : Int32} : bw_xs P ((.isub, r) :: is) L (.inl y :: .inl x :: st) h K ↔ bw_xs P is L (.inl (x - y) :: st) h K := ⟨fun ⟨_, e, k⟩ => by cases e; exact k, fun k => ⟨_, rfl, k⟩⟩
theorem bw_imul {x y : Int32} : bw_xs P ((.imul, r) :: is) L (.inl y :: .inl x :: st) h K ↔ bw_xs P is L (.inl (x * y) :: st) h K := ⟨fun ⟨_, e, k⟩ => by cases e; exact k, fun k => ⟨_, rfl, k⟩⟩
theorem bw_iand {x y : Int32} : bw_xs P ((.iand, r) :: is) L (.inl y :: .inl x :: st) h K ↔ bw_xs P is L (.inl (x &&& y) :: st) h K := ⟨fun ⟨_, e, k⟩ => by cases e; exact k, fun k => ⟨_, rfl, k⟩⟩
theorem bw_ixor {x y : Int32} : bw_xs P ((.ixor, r) :: is) L (.inl y :: .inl x :: st) h K ↔ bw_xs P is L (.inl (x ^^^ y) :: st) h K := ⟨fun ⟨_, e, k⟩ => by cases e; exact k, fun k => ⟨_, rfl, k⟩⟩
theorem bw_idiv {x y : Int32} : bw_xs P ((.idiv, r) :: is) L (.inl y :: .inl x :: st) h K ↔ ¬ y = 0 ∧ bw_xs P is L (.inl (x / y) :: st) h K := by
  constructor
  · rintro ⟨q, e, k⟩
    unfold bi_x at e
    dsimp only at e
    split at e
    · cases e
    · rename_i hc
      cases e
      exact ⟨hc, k⟩
  · rintro ⟨hc, k⟩
    refine ⟨(L, (.inl (x / y) :: st), h), ?_, k⟩
    unfold bi_x
    dsimp only
    rw [if_neg hc]
theorem bw_irem {x y : Int32} : bw_xs P ((.irem, r) :: is) L (.inl y :: .inl x :: st) h K ↔ ¬ y = 0 ∧ bw_xs P is L (.inl (x - x / y * y) :: st) h K := by
  constructor
  · rintro ⟨q, e, k⟩
    unfold bi_x at e
    dsimp only at e
    split at e
    · cases e
    · rename_i hc
      cases e
      exact ⟨hc, k⟩
  · rintro ⟨hc, k⟩
    refine ⟨(L, (.inl (x - x / y * y) :: st), h), ?_, k⟩
    unfold bi_x
    dsimp only
    rw [if_neg hc]
theorem bw_i2l {x : Int32} : bw_xs P ((.i2l, r) :: is) L (.inl x :: st) h K ↔ bw_xs P is L (.inr (.inr x) :: st) h K := ⟨fun ⟨_, e, k⟩ => by cases e; exact k, fun k => ⟨_, rfl, k⟩⟩
theorem bw_lcmp {x y : Int32} : bw_xs P ((.lcmp, r) :: is) L (.inr (.inr y) :: .inr (.inr x) :: st) h K ↔ bw_xs P is L (.inl (if y < x then 1 else if x = y then 0 else -1) :: st) h K := ⟨fun ⟨_, e, k⟩ => by cases e; exact k, fun k => ⟨_, rfl, k⟩⟩
theorem bw_dupi {x : Int32} : bw_xs P ((.dup, r) :: is) L (.inl x :: st) h K ↔ bw_xs P is L (.inl x :: .inl x :: st) h K := ⟨fun ⟨_, e, k⟩ => by cases e; exact k, fun k => ⟨_, rfl, k⟩⟩
theorem bw_dupa {x : Nat} : bw_xs P ((.dup, r) :: is) L (.inr (.inl x) :: st) h K ↔ bw_xs P is L (.inr (.inl x) :: .inr (.inl x) :: st) h K := ⟨fun ⟨_, e, k⟩ => by cases e; exact k, fun k => ⟨_, rfl, k⟩⟩
theorem bw_dup2ia {x : Int32} {y : Nat} : bw_xs P ((.dup2, r) :: is) L (.inl x :: .inr (.inl y) :: st) h K ↔ bw_xs P is L (.inl x :: .inr (.inl y) :: .inl x :: .inr (.inl y) :: st) h K := ⟨fun ⟨_, e, k⟩ => by cases e; exact k, fun k => ⟨_, rfl, k⟩⟩
theorem bw_dup2ii {x y : Int32} : bw_xs P ((.dup2, r) :: is) L (.inl x :: .inl y :: st) h K ↔ bw_xs P is L (.inl x :: .inl y :: .inl x :: .inl y :: st) h K := ⟨fun ⟨_, e, k⟩ => by cases e; exact k, fun k => ⟨_, rfl, k⟩⟩
theorem bw_getf0 {i c f z a : Nat} : bw_xs P ((.getfield i, (c, f, 0, z)) :: is) L (.inr (.inl a) :: st) h K ↔ (bi_k h a).1 = 10 + c ∧ bw_xs P is L (.inl (bi_fi h c f a) :: st) h K := by
  constructor
  · rintro ⟨q, e, k⟩
    unfold bi_x at e
    dsimp only at e
    split at e
    · rename_i hc
      cases e
      exact ⟨hc, k⟩
    · cases e
  · rintro ⟨hc, k⟩
    refine ⟨(L, (.inl (bi_fi h c f a) :: st), h), ?_, k⟩
    unfold bi_x
    dsimp only
    rw [if_pos hc]
    rfl
theorem bw_getf2 {i c f z a : Nat} : bw_xs P ((.getfield i, (c, f, 2, z)) :: is) L (.inr (.inl a) :: st) h K ↔ (bi_k h a).1 = 10 + c ∧ bw_xs P is L (.inl (bi_fi h c f a) :: st) h K := by
  constructor
  · rintro ⟨q, e, k⟩
    unfold bi_x at e
    dsimp only at e
    split at e
    · rename_i hc
      cases e
      exact ⟨hc, k⟩
    · cases e
  · rintro ⟨hc, k⟩
    refine ⟨(L, (.inl (bi_fi h c f a) :: st), h), ?_, k⟩
    unfold bi_x
    dsimp only
    rw [if_pos hc]
    rfl
theorem bw_getf1 {i c f z a : Nat} : bw_xs P ((.getfield i, (c, f, 1, z)) :: is) L (.inr (.inl a) :: st) h K ↔ (bi_k h a).1 = 10 + c ∧ bw_xs P is L (.inr (.inl (bi_fr h c f a)) :: st) h K := by
  constructor
  · rintro ⟨q, e, k⟩
    unfold bi_x at e
    dsimp only at e
    split at e
    · rename_i hc
      cases e
      exact ⟨hc, k⟩
    · cases e
  · rintro ⟨hc, k⟩
    refine ⟨(L, (.inr (.inl (bi_fr h c f a)) :: st), h), ?_, k⟩
    unfold bi_x
    dsimp only
    rw [if_pos hc]
    rfl
theorem bw_putf0 {i c f z a : Nat} {x : Int32} : bw_xs P ((.putfield i, (c, f, 0, z)) :: is) L (.inl x :: .inr (.inl a) :: st) h K ↔ (bi_k h a).1 = 10 + c ∧ bw_xs P is L st (bi_sfi h c f a x) K := by
  constructor
  · rintro ⟨q, e, k⟩
    unfold bi_x at e
    dsimp only at e
    split at e
    · rename_i hc
      cases e
      exact ⟨hc.1, k⟩
    · cases e
  · rintro ⟨hc, k⟩
    refine ⟨(L, st, (bi_sfi h c f a x)), ?_, k⟩
    unfold bi_x
    dsimp only
    rw [if_pos ⟨hc, Or.inl rfl⟩]
theorem bw_putf2 {i c f z a : Nat} {x : Int32} : bw_xs P ((.putfield i, (c, f, 2, z)) :: is) L (.inl x :: .inr (.inl a) :: st) h K ↔ (bi_k h a).1 = 10 + c ∧ (x = 0 ∨ x = 1) ∧ bw_xs P is L st (bi_sfi h c f a x) K := by
  constructor
  · rintro ⟨q, e, k⟩
    unfold bi_x at e
    dsimp only at e
    split at e
    · rename_i hc
      cases e
      exact ⟨hc.1, (hc.2.resolve_left (by decide)).2, k⟩
    · cases e
  · rintro ⟨hc, hx, k⟩
    refine ⟨(L, st, (bi_sfi h c f a x)), ?_, k⟩
    unfold bi_x
    dsimp only
    rw [if_pos ⟨hc, Or.inr ⟨rfl, hx⟩⟩]
theorem bw_putf1 {i c f z a x : Nat} : bw_xs P ((.putfield i, (c, f, 1, z)) :: is) L (.inr (.inl x) :: .inr (.inl a) :: st) h K ↔ (bi_k h a).1 = 10 + c ∧ bw_xs P is L st (bi_sfr h c f a x) K := by
  constructor
  · rintro ⟨q, e, k⟩
    unfold bi_x at e
    dsimp only at e
    split at e
    · rename_i hc
      cases e
      exact ⟨hc.1, k⟩
    · cases e
  · rintro ⟨hc, k⟩
    refine ⟨(L, st, (bi_sfr h c f a x)), ?_, k⟩
    unfold bi_x
    dsimp only
    rw [if_pos ⟨hc, rfl⟩]
theorem bw_iaload {j : Int32} {a : Nat} : bw_xs P ((.iaload, r) :: is) L (.inl j :: .inr (.inl a) :: st) h K ↔ ((bi_k h a).1 = 1 ∨ (bi_k h a).1 = 4) ∧ ¬ j < 0 ∧ j.toNatClampNeg < (bi_k h a).2 ∧ bw_xs P is L (.inl (bi_ai h a j.toNatClampNeg) :: st) h K := by
  constructor
  · rintro ⟨q, e, k⟩
    unfold bi_x at e
    dsimp only at e
    split at e
    · rename_i hc
      cases e
      exact ⟨hc.1, hc.2.1, hc.2.2, k⟩
    · cases e
  · rintro ⟨h1, h2, h3, k⟩
    refine ⟨(L, (.inl (bi_ai h a j.toNatClampNeg) :: st), h), ?_, k⟩
    unfold bi_x
    dsimp only
    rw [if_pos ⟨h1, h2, h3⟩]
theorem bw_baload {j : Int32} {a : Nat} : bw_xs P ((.baload, r) :: is) L (.inl j :: .inr (.inl a) :: st) h K ↔ (bi_k h a).1 = 2 ∧ ¬ j < 0 ∧ j.toNatClampNeg < (bi_k h a).2 ∧ bw_xs P is L (.inl (bi_ai h a j.toNatClampNeg) :: st) h K := by
  constructor
  · rintro ⟨q, e, k⟩
    unfold bi_x at e
    dsimp only at e
    split at e
    · rename_i hc
      cases e
      exact ⟨hc.1, hc.2.1, hc.2.2, k⟩
    · cases e
  · rintro ⟨h1, h2, h3, k⟩
    refine ⟨(L, (.inl (bi_ai h a j.toNatClampNeg) :: st), h), ?_, k⟩
    unfold bi_x
    dsimp only
    rw [if_pos ⟨h1, h2, h3⟩]
theorem bw_laload {j : Int32} {a : Nat} : bw_xs P ((.laload, r) :: is) L (.inl j :: .inr (.inl a) :: st) h K ↔ (bi_k h a).1 = 3 ∧ ¬ j < 0 ∧ j.toNatClampNeg < (bi_k h a).2 ∧ bw_xs P is L (.inr (.inr (bi_ai h a j.toNatClampNeg)) :: st) h K := by
  constructor
  · rintro ⟨q, e, k⟩
    unfold bi_x at e
    dsimp only at e
    split at e
    · rename_i hc
      cases e
      exact ⟨hc.1, hc.2.1, hc.2.2, k⟩
    · cases e
  · rintro ⟨h1, h2, h3, k⟩
    refine ⟨(L, (.inr (.inr (bi_ai h a j.toNatClampNeg)) :: st), h), ?_, k⟩
    unfold bi_x
    dsimp only
    rw [if_pos ⟨h1, h2, h3⟩]
theorem bw_aaload {j : Int32} {a : Nat} : bw_xs P ((.aaload, r) :: is) L (.inl j :: .inr (.inl a) :: st) h K ↔ ((bi_k h a).1 = 5 ∨ (40 ≤ (bi_k h a).1 ∧ (bi_k h a).1 < 53)) ∧ ¬ j < 0 ∧ j.toNatClampNeg < (bi_k h a).2 ∧ bw_xs P is L (.inr (.inl (bi_ar h a j.toNatClampNeg)) :: st) h K := by
  constructor
  · rintro ⟨q, e, k⟩
    unfold bi_x at e
    dsimp only at e
    split at e
    · rename_i hc
      cases e
      exact ⟨hc.1, hc.2.1, hc.2.2, k⟩
    · cases e
  · rintro ⟨h1, h2, h3, k⟩
    refine ⟨(L, (.inr (.inl (bi_ar h a j.toNatClampNeg)) :: st), h), ?_, k⟩
    unfold bi_x
    dsimp only
    rw [if_pos ⟨h1, h2, h3⟩]
theorem bw_iastore {x j : Int32} {a : Nat} : bw_xs P ((.iastore, r) :: is) L (.inl x :: .inl j :: .inr (.inl a) :: st) h K ↔ (bi_k h a).1 = 1 ∧ ¬ j < 0 ∧ j.toNatClampNeg < (bi_k h a).2 ∧ bw_xs P is L st (bi_sai h a j.toNatClampNeg x) K := by
  constructor
  · rintro ⟨q, e, k⟩
    unfold bi_x at e
    dsimp only at e
    split at e
    · rename_i hc
      cases e
      exact ⟨hc.1, hc.2.1, hc.2.2, k⟩
    · cases e
  · rintro ⟨h1, h2, h3, k⟩
    refine ⟨(L, st, (bi_sai h a j.toNatClampNeg x)), ?_, k⟩
    unfold bi_x
    dsimp only
    rw [if_pos ⟨h1, h2, h3⟩]
theorem bw_bastore {x j : Int32} {a : Nat} : bw_xs P ((.bastore, r) :: is) L (.inl x :: .inl j :: .inr (.inl a) :: st) h K ↔ (bi_k h a).1 = 2 ∧ (x = 0 ∨ x = 1) ∧ ¬ j < 0 ∧ j.toNatClampNeg < (bi_k h a).2 ∧ bw_xs P is L st (bi_sai h a j.toNatClampNeg x) K := by
  constructor
  · rintro ⟨q, e, k⟩
    unfold bi_x at e
    dsimp only at e
    split at e
    · rename_i hc
      cases e
      exact ⟨hc.1, hc.2.1, hc.2.2.1, hc.2.2.2, k⟩
    · cases e
  · rintro ⟨h1, h2, h3, h4, k⟩
    refine ⟨(L, st, (bi_sai h a j.toNatClampNeg x)), ?_, k⟩
    unfold bi_x
    dsimp only
    rw [if_pos ⟨h1, h2, h3, h4⟩]
theorem bw_lastore {x j : Int32} {a : Nat} : bw_xs P ((.lastore, r) :: is) L (.inr (.inr x) :: .inl j :: .inr (.inl a) :: st) h K ↔ (bi_k h a).1 = 3 ∧ ¬ j < 0 ∧ j.toNatClampNeg < (bi_k h a).2 ∧ bw_xs P is L st (bi_sai h a j.toNatClampNeg x) K := by
  constructor
  · rintro ⟨q, e, k⟩
    unfold bi_x at e
    dsimp only at e
    split at e
    · rename_i hc
      cases e
      exact ⟨hc.1, hc.2.1, hc.2.2, k⟩
    · cases e
  · rintro ⟨h1, h2, h3, k⟩
    refine ⟨(L, st, (bi_sai h a j.toNatClampNeg x)), ?_, k⟩
    unfold bi_x
    dsimp only
    rw [if_pos ⟨h1, h2, h3⟩]
theorem bw_aastore {j : Int32} {a x : Nat} : bw_xs P ((.aastore, r) :: is) L (.inr (.inl x) :: .inl j :: .inr (.inl a) :: st) h K ↔ (40 ≤ (bi_k h a).1 ∧ (bi_k h a).1 < 53) ∧ (x = 0 ∨ (bi_k h x).1 + 30 = (bi_k h a).1) ∧ ¬ j < 0 ∧ j.toNatClampNeg < (bi_k h a).2 ∧ bw_xs P is L st (bi_sar h a j.toNatClampNeg x) K := by
  constructor
  · rintro ⟨q, e, k⟩
    unfold bi_x at e
    dsimp only at e
    split at e
    · rename_i hc
      cases e
      exact ⟨hc.1, hc.2.1, hc.2.2.1, hc.2.2.2, k⟩
    · cases e
  · rintro ⟨h1, h2, h3, h4, k⟩
    refine ⟨(L, st, (bi_sar h a j.toNatClampNeg x)), ?_, k⟩
    unfold bi_x
    dsimp only
    rw [if_pos ⟨h1, h2, h3, h4⟩]
theorem bw_alen {a : Nat} : bw_xs P ((.arraylength, r) :: is) L (.inr (.inl a) :: st) h K ↔ ((1 ≤ (bi_k h a).1 ∧ (bi_k h a).1 ≤ 5) ∨ (40 ≤ (bi_k h a).1 ∧ (bi_k h a).1 < 53)) ∧ bw_xs P is L (.inl (Int32.ofNat (bi_k h a).2) :: st) h K := by
  constructor
  · rintro ⟨q, e, k⟩
    unfold bi_x at e
    dsimp only at e
    split at e
    · rename_i hc
      cases e
      exact ⟨hc, k⟩
    · cases e
  · rintro ⟨hc, k⟩
    refine ⟨(L, (.inl (Int32.ofNat (bi_k h a).2) :: st), h), ?_, k⟩
    unfold bi_x
    dsimp only
    rw [if_pos hc]
theorem bw_newa_int {n : Int32} : bw_xs P ((.newarray .int, r) :: is) L (.inl n :: st) h K ↔ ¬ n < 0 ∧ n.toNatClampNeg ≤ 1000000 ∧ bw_xs P is L (.inr (.inl (bi_nx h)) :: st) (bi_new h (1, n.toNatClampNeg) n.toNatClampNeg) K := by
  constructor
  · rintro ⟨q, e, k⟩
    unfold bi_x at e
    dsimp only at e
    split at e
    · rename_i hc
      cases e
      exact ⟨hc.1, hc.2.1, k⟩
    · cases e
  · rintro ⟨h1, h2, k⟩
    refine ⟨(L, (.inr (.inl (bi_nx h)) :: st), (bi_new h (1, n.toNatClampNeg) n.toNatClampNeg)), ?_, k⟩
    unfold bi_x
    dsimp only
    rw [if_pos ⟨h1, h2, by simp⟩]
    rfl
theorem bw_newa_boolean {n : Int32} : bw_xs P ((.newarray .boolean, r) :: is) L (.inl n :: st) h K ↔ ¬ n < 0 ∧ n.toNatClampNeg ≤ 1000000 ∧ bw_xs P is L (.inr (.inl (bi_nx h)) :: st) (bi_new h (2, n.toNatClampNeg) n.toNatClampNeg) K := by
  constructor
  · rintro ⟨q, e, k⟩
    unfold bi_x at e
    dsimp only at e
    split at e
    · rename_i hc
      cases e
      exact ⟨hc.1, hc.2.1, k⟩
    · cases e
  · rintro ⟨h1, h2, k⟩
    refine ⟨(L, (.inr (.inl (bi_nx h)) :: st), (bi_new h (2, n.toNatClampNeg) n.toNatClampNeg)), ?_, k⟩
    unfold bi_x
    dsimp only
    rw [if_pos ⟨h1, h2, by simp⟩]
    rfl
theorem bw_newa_long {n : Int32} : bw_xs P ((.newarray .long, r) :: is) L (.inl n :: st) h K ↔ ¬ n < 0 ∧ n.toNatClampNeg ≤ 1000000 ∧ bw_xs P is L (.inr (.inl (bi_nx h)) :: st) (bi_new h (3, n.toNatClampNeg) n.toNatClampNeg) K := by
  constructor
  · rintro ⟨q, e, k⟩
    unfold bi_x at e
    dsimp only at e
    split at e
    · rename_i hc
      cases e
      exact ⟨hc.1, hc.2.1, k⟩
    · cases e
  · rintro ⟨h1, h2, k⟩
    refine ⟨(L, (.inr (.inl (bi_nx h)) :: st), (bi_new h (3, n.toNatClampNeg) n.toNatClampNeg)), ?_, k⟩
    unfold bi_x
    dsimp only
    rw [if_pos ⟨h1, h2, by simp⟩]
    rfl
theorem bw_anewa {i c : Nat} {z : Nat × Nat × Nat} {n : Int32} : bw_xs P ((.anewarray i, (c, z)) :: is) L (.inl n :: st) h K ↔ ¬ n < 0 ∧ n.toNatClampNeg ≤ 1000000 ∧ bw_xs P is L (.inr (.inl (bi_nx h)) :: st) (bi_new h (40 + c, n.toNatClampNeg) n.toNatClampNeg) K := by
  constructor
  · rintro ⟨q, e, k⟩
    unfold bi_x at e
    dsimp only at e
    split at e
    · rename_i hc
      cases e
      exact ⟨hc.1, hc.2, k⟩
    · cases e
  · rintro ⟨h1, h2, k⟩
    refine ⟨(L, (.inr (.inl (bi_nx h)) :: st), (bi_new h (40 + c, n.toNatClampNeg) n.toNatClampNeg)), ?_, k⟩
    unfold bi_x
    dsimp only
    rw [if_pos ⟨h1, h2⟩]
theorem bw_multi {i d : Nat} {m n : Int32} : bw_xs P ((.multianewarray i d, r) :: is) L (.inl m :: .inl n :: st) h K ↔ ¬ n < 0 ∧ n.toNatClampNeg ≤ 1000 ∧ ¬ m < 0 ∧ m.toNatClampNeg ≤ 100000 ∧ bw_xs P is L (.inr (.inl (bi_nx h)) :: st) (bi_new2 h n.toNatClampNeg m.toNatClampNeg) K := by
  constructor
  · rintro ⟨q, e, k⟩
    unfold bi_x at e
    dsimp only at e
    split at e
    · rename_i hc
      cases e
      exact ⟨hc.1, hc.2.1, hc.2.2.1, hc.2.2.2, k⟩
    · cases e
  · rintro ⟨h1, h2, h3, h4, k⟩
    refine ⟨(L, (.inr (.inl (bi_nx h)) :: st), (bi_new2 h n.toNatClampNeg m.toNatClampNeg)), ?_, k⟩
    unfold bi_x
    dsimp only
    rw [if_pos ⟨h1, h2, h3, h4⟩]
theorem bw_new {i c n : Nat} {z : Nat × Nat} : bw_xs P ((.new i, (c, n, z)) :: is) L st h K ↔ bw_xs P is L (.inr (.inl (bi_nx h)) :: st) (bi_new h (10 + c, 0) n) K := ⟨fun ⟨_, e, k⟩ => by cases e; exact k, fun k => ⟨_, rfl, k⟩⟩
theorem bw_static {i mi n : Nat} {z : Nat × Nat} : bw_xs P ((.invokestatic i, (mi, n, z)) :: is) L st h K ↔ n ≤ st.length ∧ bi_sum (st.drop n) ≤ 8 ∧ bi_sum (st.take n) = n ∧ bw_C P mi (st.take n).reverse h (fun v h => bw_xs P is L (v.toList ++ st.drop n) h K) := Iff.rfl
theorem bw_o_iff {mi n c z : Nat} : bw_o P (mi, n, c, z) L st h (fun L st h => bw_xs P is L st h K) ↔ bw_go (st.drop n) (fun a rest => (bi_k h a).1 = 10 + c ∧ bi_sum rest ≤ 8 ∧ bi_sum (st.take n) = n ∧ bw_C P mi (.inr (.inl a) :: (st.take n).reverse) h (fun v h => bw_xs P is L (v.toList ++ rest) h K)) := by
  constructor
  · rintro ⟨a, rest, e, k⟩
    have e : st.drop n = .inr (.inl a) :: rest := e
    rw [e]
    exact k
  · intro k
    unfold bw_go at k
    split at k
    · rename_i a rest e
      exact ⟨a, rest, e, k⟩
    · exact k.elim
theorem bw_virt {i mi n c z : Nat} : bw_xs P ((.invokevirtual i, (mi, n, c, z)) :: is) L st h K ↔ bw_go (st.drop n) (fun a rest => (bi_k h a).1 = 10 + c ∧ bi_sum rest ≤ 8 ∧ bi_sum (st.take n) = n ∧ bw_C P mi (.inr (.inl a) :: (st.take n).reverse) h (fun v h => bw_xs P is L (v.toList ++ rest) h K)) := bw_o_iff
theorem bw_obj {i n c z a : Nat} : bw_xs P ((.invokespecial i, (9999, n, c, z)) :: is) L (.inr (.inl a) :: st) h K ↔ (bi_k h a).1 ≠ 0 ∧ bi_sum st ≤ 8 ∧ bw_xs P is L st h K := by
  constructor
  · intro k
    have k : ∃ a' rest, (.inr (.inl a) :: st : List bi_V) = .inr (.inl a') :: rest ∧ (bi_k h a').1 ≠ 0 ∧ bi_sum rest ≤ 8 ∧ bw_xs P is L rest h K := k
    obtain ⟨a', rest, e, k⟩ := k
    cases e
    exact k
  · intro k
    have k' : ∃ a' rest, (.inr (.inl a) :: st : List bi_V) = .inr (.inl a') :: rest ∧ (bi_k h a').1 ≠ 0 ∧ bi_sum rest ≤ 8 ∧ bw_xs P is L rest h K := ⟨a, st, rfl, k⟩
    exact k'
theorem bw_spec {i mi n c z : Nat} (hm : ¬ mi = 9999)  : bw_xs P ((.invokespecial i, (mi, n, c, z)) :: is) L st h K ↔ bw_go (st.drop n) (fun a rest => (bi_k h a).1 = 10 + c ∧ bi_sum rest ≤ 8 ∧ bi_sum (st.take n) = n ∧ bw_C P mi (.inr (.inl a) :: (st.take n).reverse) h (fun v h => bw_xs P is L (v.toList ++ rest) h K)) := by
  rw [← bw_o_iff (z := z)]
  show (if mi = 9999 then _ else _) ↔ _
  rw [if_neg hm]
theorem bw_t_nop : bw_t P (.nop, r) bs L st h Q B ↔ B (bs.getD 0 0) L st h := ⟨fun ⟨_, e, k⟩ => by cases e; exact k, fun k => ⟨_, rfl, k⟩⟩
theorem bw_t_goto {z : Int} : bw_t P (.goto z, r) bs L st h Q B ↔ B (bs.getD 0 0) L st h := ⟨fun ⟨_, e, k⟩ => by cases e; exact k, fun k => ⟨_, rfl, k⟩⟩
theorem bw_t_eq_z {z : Int} {b0 b1 : Nat} {x : Int32} : bw_t P (.ifCond .eq z, r) (b0 :: b1 :: bs) L (.inl x :: st) h Q B ↔ (if x = 0 then B b0 L st h else B b1 L st h) := by
  by_cases hc : x = 0
  · rw [if_pos hc]
    constructor
    · rintro ⟨w, e, k⟩
      have e : some (Sum.inr (if decide (x = 0) = true then b0 else b1, L, st, h)) = some w := e
      rw [if_pos (decide_eq_true hc)] at e
      cases e
      exact k
    · intro k
      refine ⟨.inr (b0, L, st, h), ?_, k⟩
      show some (Sum.inr (if decide (x = 0) = true then b0 else b1, L, st, h)) = _
      rw [if_pos (decide_eq_true hc)]
  · rw [if_neg hc]
    have hd : ¬ decide (x = 0) = true := by simpa using hc
    constructor
    · rintro ⟨w, e, k⟩
      have e : some (Sum.inr (if decide (x = 0) = true then b0 else b1, L, st, h)) = some w := e
      rw [if_neg hd] at e
      cases e
      exact k
    · intro k
      refine ⟨.inr (b1, L, st, h), ?_, k⟩
      show some (Sum.inr (if decide (x = 0) = true then b0 else b1, L, st, h)) = _
      rw [if_neg hd]
theorem bw_t_eq_i {z : Int} {b0 b1 : Nat} {x y : Int32} : bw_t P (.if_icmp .eq z, r) (b0 :: b1 :: bs) L (.inl y :: .inl x :: st) h Q B ↔ (if x = y then B b0 L st h else B b1 L st h) := by
  by_cases hc : x = y
  · rw [if_pos hc]
    constructor
    · rintro ⟨w, e, k⟩
      have e : some (Sum.inr (if decide (x = y) = true then b0 else b1, L, st, h)) = some w := e
      rw [if_pos (decide_eq_true hc)] at e
      cases e
      exact k
    · intro k
      refine ⟨.inr (b0, L, st, h), ?_, k⟩
      show some (Sum.inr (if decide (x = y) = true then b0 else b1, L, st, h)) = _
      rw [if_pos (decide_eq_true hc)]
  · rw [if_neg hc]
    have hd : ¬ decide (x = y) = true := by simpa using hc
    constructor
    · rintro ⟨w, e, k⟩
      have e : some (Sum.inr (if decide (x = y) = true then b0 else b1, L, st, h)) = some w := e
      rw [if_neg hd] at e
      cases e
      exact k
    · intro k
      refine ⟨.inr (b1, L, st, h), ?_, k⟩
      show some (Sum.inr (if decide (x = y) = true then b0 else b1, L, st, h)) = _
      rw [if_neg hd]
theorem bw_t_ne_z {z : Int} {b0 b1 : Nat} {x : Int32} : bw_t P (.ifCond .ne z, r) (b0 :: b1 :: bs) L (.inl x :: st) h Q B ↔ (if ¬ x = 0 then B b0 L st h else B b1 L st h) := by
  by_cases hc : ¬ x = 0
  · rw [if_pos hc]
    constructor
    · rintro ⟨w, e, k⟩
      have e : some (Sum.inr (if decide (¬ x = 0) = true then b0 else b1, L, st, h)) = some w := e
      rw [if_pos (decide_eq_true hc)] at e
      cases e
      exact k
    · intro k
      refine ⟨.inr (b0, L, st, h), ?_, k⟩
      show some (Sum.inr (if decide (¬ x = 0) = true then b0 else b1, L, st, h)) = _
      rw [if_pos (decide_eq_true hc)]
  · rw [if_neg hc]
    have hd : ¬ decide (¬ x = 0) = true := by simpa using hc
    constructor
    · rintro ⟨w, e, k⟩
      have e : some (Sum.inr (if decide (¬ x = 0) = true then b0 else b1, L, st, h)) = some w := e
      rw [if_neg hd] at e
      cases e
      exact k
    · intro k
      refine ⟨.inr (b1, L, st, h), ?_, k⟩
      show some (Sum.inr (if decide (¬ x = 0) = true then b0 else b1, L, st, h)) = _
      rw [if_neg hd]
theorem bw_t_ne_i {z : Int} {b0 b1 : Nat} {x y : Int32} : bw_t P (.if_icmp .ne z, r) (b0 :: b1 :: bs) L (.inl y :: .inl x :: st) h Q B ↔ (if ¬ x = y then B b0 L st h else B b1 L st h) := by
  by_cases hc : ¬ x = y
  · rw [if_pos hc]
    constructor
    · rintro ⟨w, e, k⟩
      have e : some (Sum.inr (if decide (¬ x = y) = true then b0 else b1, L, st, h)) = some w := e
      rw [if_pos (decide_eq_true hc)] at e
      cases e
      exact k
    · intro k
      refine ⟨.inr (b0, L, st, h), ?_, k⟩
      show some (Sum.inr (if decide (¬ x = y) = true then b0 else b1, L, st, h)) = _
      rw [if_pos (decide_eq_true hc)]
  · rw [if_neg hc]
    have hd : ¬ decide (¬ x = y) = true := by simpa using hc
    constructor
    · rintro ⟨w, e, k⟩
      have e : some (Sum.inr (if decide (¬ x = y) = true then b0 else b1, L, st, h)) = some w := e
      rw [if_neg hd] at e
      cases e
      exact k
    · intro k
      refine ⟨.inr (b1, L, st, h), ?_, k⟩
      show some (Sum.inr (if decide (¬ x = y) = true then b0 else b1, L, st, h)) = _
      rw [if_neg hd]
theorem bw_t_lt_z {z : Int} {b0 b1 : Nat} {x : Int32} : bw_t P (.ifCond .lt z, r) (b0 :: b1 :: bs) L (.inl x :: st) h Q B ↔ (if x < 0 then B b0 L st h else B b1 L st h) := by
  by_cases hc : x < 0
  · rw [if_pos hc]
    constructor
    · rintro ⟨w, e, k⟩
      have e : some (Sum.inr (if decide (x < 0) = true then b0 else b1, L, st, h)) = some w := e
      rw [if_pos (decide_eq_true hc)] at e
      cases e
      exact k
    · intro k
      refine ⟨.inr (b0, L, st, h), ?_, k⟩
      show some (Sum.inr (if decide (x < 0) = true then b0 else b1, L, st, h)) = _
      rw [if_pos (decide_eq_true hc)]
  · rw [if_neg hc]
    have hd : ¬ decide (x < 0) = true := by simpa using hc
    constructor
    · rintro ⟨w, e, k⟩
      have e : some (Sum.inr (if decide (x < 0) = true then b0 else b1, L, st, h)) = some w := e
      rw [if_neg hd] at e
      cases e
      exact k
    · intro k
      refine ⟨.inr (b1, L, st, h), ?_, k⟩
      show some (Sum.inr (if decide (x < 0) = true then b0 else b1, L, st, h)) = _
      rw [if_neg hd]
theorem bw_t_lt_i {z : Int} {b0 b1 : Nat} {x y : Int32} : bw_t P (.if_icmp .lt z, r) (b0 :: b1 :: bs) L (.inl y :: .inl x :: st) h Q B ↔ (if x < y then B b0 L st h else B b1 L st h) := by
  by_cases hc : x < y
  · rw [if_pos hc]
    constructor
    · rintro ⟨w, e, k⟩
      have e : some (Sum.inr (if decide (x < y) = true then b0 else b1, L, st, h)) = some w := e
      rw [if_pos (decide_eq_true hc)] at e
      cases e
      exact k
    · intro k
      refine ⟨.inr (b0, L, st, h), ?_, k⟩
      show some (Sum.inr (if decide (x < y) = true then b0 else b1, L, st, h)) = _
      rw [if_pos (decide_eq_true hc)]
  · rw [if_neg hc]
    have hd : ¬ decide (x < y) = true := by simpa using hc
    constructor
    · rintro ⟨w, e, k⟩
      have e : some (Sum.inr (if decide (x < y) = true then b0 else b1, L, st, h)) = some w := e
      rw [if_neg hd] at e
      cases e
      exact k
    · intro k
      refine ⟨.inr (b1, L, st, h), ?_, k⟩
      show some (Sum.inr (if decide (x < y) = true then b0 else b1, L, st, h)) = _
      rw [if_neg hd]
theorem bw_t_ge_z {z : Int} {b0 b1 : Nat} {x : Int32} : bw_t P (.ifCond .ge z, r) (b0 :: b1 :: bs) L (.inl x :: st) h Q B ↔ (if 0 ≤ x then B b0 L st h else B b1 L st h) := by
  by_cases hc : 0 ≤ x
  · rw [if_pos hc]
    constructor
    · rintro ⟨w, e, k⟩
      have e : some (Sum.inr (if decide (0 ≤ x) = true then b0 else b1, L, st, h)) = some w := e
      rw [if_pos (decide_eq_true hc)] at e
      cases e
      exact k
    · intro k
      refine ⟨.inr (b0, L, st, h), ?_, k⟩
      show some (Sum.inr (if decide (0 ≤ x) = true then b0 else b1, L, st, h)) = _
      rw [if_pos (decide_eq_true hc)]
  · rw [if_neg hc]
    have hd : ¬ decide (0 ≤ x) = true := by simpa using hc
    constructor
    · rintro ⟨w, e, k⟩
      have e : some (Sum.inr (if decide (0 ≤ x) = true then b0 else b1, L, st, h)) = some w := e
      rw [if_neg hd] at e
      cases e
      exact k
    · intro k
      refine ⟨.inr (b1, L, st, h), ?_, k⟩
      show some (Sum.inr (if decide (0 ≤ x) = true then b0 else b1, L, st, h)) = _
      rw [if_neg hd]
theorem bw_t_ge_i {z : Int} {b0 b1 : Nat} {x y : Int32} : bw_t P (.if_icmp .ge z, r) (b0 :: b1 :: bs) L (.inl y :: .inl x :: st) h Q B ↔ (if y ≤ x then B b0 L st h else B b1 L st h) := by
  by_cases hc : y ≤ x
  · rw [if_pos hc]
    constructor
    · rintro ⟨w, e, k⟩
      have e : some (Sum.inr (if decide (y ≤ x) = true then b0 else b1, L, st, h)) = some w := e
      rw [if_pos (decide_eq_true hc)] at e
      cases e
      exact k
    · intro k
      refine ⟨.inr (b0, L, st, h), ?_, k⟩
      show some (Sum.inr (if decide (y ≤ x) = true then b0 else b1, L, st, h)) = _
      rw [if_pos (decide_eq_true hc)]
  · rw [if_neg hc]
    have hd : ¬ decide (y ≤ x) = true := by simpa using hc
    constructor
    · rintro ⟨w, e, k⟩
      have e : some (Sum.inr (if decide (y ≤ x) = true then b0 else b1, L, st, h)) = some w := e
      rw [if_neg hd] at e
      cases e
      exact k
    · intro k
      refine ⟨.inr (b1, L, st, h), ?_, k⟩
      show some (Sum.inr (if decide (y ≤ x) = true then b0 else b1, L, st, h)) = _
      rw [if_neg hd]
theorem bw_t_gt_z {z : Int} {b0 b1 : Nat} {x : Int32} : bw_t P (.ifCond .gt z, r) (b0 :: b1 :: bs) L (.inl x :: st) h Q B ↔ (if 0 < x then B b0 L st h else B b1 L st h) := by
  by_cases hc : 0 < x
  · rw [if_pos hc]
    constructor
    · rintro ⟨w, e, k⟩
      have e : some (Sum.inr (if decide (0 < x) = true then b0 else b1, L, st, h)) = some w := e
      rw [if_pos (decide_eq_true hc)] at e
      cases e
      exact k
    · intro k
      refine ⟨.inr (b0, L, st, h), ?_, k⟩
      show some (Sum.inr (if decide (0 < x) = true then b0 else b1, L, st, h)) = _
      rw [if_pos (decide_eq_true hc)]
  · rw [if_neg hc]
    have hd : ¬ decide (0 < x) = true := by simpa using hc
    constructor
    · rintro ⟨w, e, k⟩
      have e : some (Sum.inr (if decide (0 < x) = true then b0 else b1, L, st, h)) = some w := e
      rw [if_neg hd] at e
      cases e
      exact k
    · intro k
      refine ⟨.inr (b1, L, st, h), ?_, k⟩
      show some (Sum.inr (if decide (0 < x) = true then b0 else b1, L, st, h)) = _
      rw [if_neg hd]
theorem bw_t_gt_i {z : Int} {b0 b1 : Nat} {x y : Int32} : bw_t P (.if_icmp .gt z, r) (b0 :: b1 :: bs) L (.inl y :: .inl x :: st) h Q B ↔ (if y < x then B b0 L st h else B b1 L st h) := by
  by_cases hc : y < x
  · rw [if_pos hc]
    constructor
    · rintro ⟨w, e, k⟩
      have e : some (Sum.inr (if decide (y < x) = true then b0 else b1, L, st, h)) = some w := e
      rw [if_pos (decide_eq_true hc)] at e
      cases e
      exact k
    · intro k
      refine ⟨.inr (b0, L, st, h), ?_, k⟩
      show some (Sum.inr (if decide (y < x) = true then b0 else b1, L, st, h)) = _
      rw [if_pos (decide_eq_true hc)]
  · rw [if_neg hc]
    have hd : ¬ decide (y < x) = true := by simpa using hc
    constructor
    · rintro ⟨w, e, k⟩
      have e : some (Sum.inr (if decide (y < x) = true then b0 else b1, L, st, h)) = some w := e
      rw [if_neg hd] at e
      cases e
      exact k
    · intro k
      refine ⟨.inr (b1, L, st, h), ?_, k⟩
      show some (Sum.inr (if decide (y < x) = true then b0 else b1, L, st, h)) = _
      rw [if_neg hd]
theorem bw_t_le_z {z : Int} {b0 b1 : Nat} {x : Int32} : bw_t P (.ifCond .le z, r) (b0 :: b1 :: bs) L (.inl x :: st) h Q B ↔ (if x ≤ 0 then B b0 L st h else B b1 L st h) := by
  by_cases hc : x ≤ 0
  · rw [if_pos hc]
    constructor
    · rintro ⟨w, e, k⟩
      have e : some (Sum.inr (if decide (x ≤ 0) = true then b0 else b1, L, st, h)) = some w := e
      rw [if_pos (decide_eq_true hc)] at e
      cases e
      exact k
    · intro k
      refine ⟨.inr (b0, L, st, h), ?_, k⟩
      show some (Sum.inr (if decide (x ≤ 0) = true then b0 else b1, L, st, h)) = _
      rw [if_pos (decide_eq_true hc)]
  · rw [if_neg hc]
    have hd : ¬ decide (x ≤ 0) = true := by simpa using hc
    constructor
    · rintro ⟨w, e, k⟩
      have e : some (Sum.inr (if decide (x ≤ 0) = true then b0 else b1, L, st, h)) = some w := e
      rw [if_neg hd] at e
      cases e
      exact k
    · intro k
      refine ⟨.inr (b1, L, st, h), ?_, k⟩
      show some (Sum.inr (if decide (x ≤ 0) = true then b0 else b1, L, st, h)) = _
      rw [if_neg hd]
theorem bw_t_le_i {z : Int} {b0 b1 : Nat} {x y : Int32} : bw_t P (.if_icmp .le z, r) (b0 :: b1 :: bs) L (.inl y :: .inl x :: st) h Q B ↔ (if x ≤ y then B b0 L st h else B b1 L st h) := by
  by_cases hc : x ≤ y
  · rw [if_pos hc]
    constructor
    · rintro ⟨w, e, k⟩
      have e : some (Sum.inr (if decide (x ≤ y) = true then b0 else b1, L, st, h)) = some w := e
      rw [if_pos (decide_eq_true hc)] at e
      cases e
      exact k
    · intro k
      refine ⟨.inr (b0, L, st, h), ?_, k⟩
      show some (Sum.inr (if decide (x ≤ y) = true then b0 else b1, L, st, h)) = _
      rw [if_pos (decide_eq_true hc)]
  · rw [if_neg hc]
    have hd : ¬ decide (x ≤ y) = true := by simpa using hc
    constructor
    · rintro ⟨w, e, k⟩
      have e : some (Sum.inr (if decide (x ≤ y) = true then b0 else b1, L, st, h)) = some w := e
      rw [if_neg hd] at e
      cases e
      exact k
    · intro k
      refine ⟨.inr (b1, L, st, h), ?_, k⟩
      show some (Sum.inr (if decide (x ≤ y) = true then b0 else b1, L, st, h)) = _
      rw [if_neg hd]
theorem bw_t_null {z : Int} {a b0 b1 : Nat} : bw_t P (.ifnull z, r) (b0 :: b1 :: bs) L (.inr (.inl a) :: st) h Q B ↔ (if a = 0 then B b0 L st h else B b1 L st h) := by
  constructor
  · rintro ⟨w, e, k⟩
    cases e
    by_cases hc : a = 0
    · rw [if_pos hc]
      simpa [hc] using k
    · rw [if_neg hc]
      simpa [hc] using k
  · intro k
    refine ⟨_, rfl, ?_⟩
    by_cases hc : a = 0
    · rw [if_pos hc] at k
      simpa [hc] using k
    · rw [if_neg hc] at k
      simpa [hc] using k
theorem bw_t_nonnull {z : Int} {a b0 b1 : Nat} : bw_t P (.ifnonnull z, r) (b0 :: b1 :: bs) L (.inr (.inl a) :: st) h Q B ↔ (if a = 0 then B b1 L st h else B b0 L st h) := by
  constructor
  · rintro ⟨w, e, k⟩
    cases e
    by_cases hc : a = 0
    · rw [if_pos hc]
      simpa [hc] using k
    · rw [if_neg hc]
      simpa [hc] using k
  · intro k
    refine ⟨_, rfl, ?_⟩
    by_cases hc : a = 0
    · rw [if_pos hc] at k
      simpa [hc] using k
    · rw [if_neg hc] at k
      simpa [hc] using k
theorem bw_t_switch {z lo hi : Int} {os : Array Int} {x : Int32} : bw_t P (.tableswitch z lo hi os, r) bs L (.inl x :: st) h Q B ↔ B (if x.toInt < lo ∨ hi < x.toInt then bs.getD 0 0 else bs.getD ((x.toInt - lo).toNat + 1) 0) L st h := ⟨fun ⟨_, e, k⟩ => by cases e; exact k, fun k => ⟨_, rfl, k⟩⟩
theorem bw_t_ireturn0 {z : Nat × Nat × Nat} {x : Int32} : bw_t P (.ireturn, (0, z)) bs L [.inl x] h Q B ↔ Q (.inl (some (.inl x))) h := ⟨fun ⟨_, e, k⟩ => by cases e; exact k, fun k => ⟨_, rfl, k⟩⟩
theorem bw_t_ireturn1 {z : Nat × Nat × Nat} {x : Int32} : bw_t P (.ireturn, (1, z)) bs L [.inl x] h Q B ↔ (x = 0 ∨ x = 1) ∧ Q (.inl (some (.inl x))) h := by
  constructor
  · rintro ⟨w, e, k⟩
    unfold bi_t at e
    dsimp only at e
    split at e
    · rename_i hc
      cases e
      exact ⟨hc.resolve_left (by decide), k⟩
    · cases e
  · rintro ⟨hc, k⟩
    refine ⟨.inl (.inl (some (.inl x)), h), ?_, k⟩
    unfold bi_t
    dsimp only
    rw [if_pos (Or.inr hc)]
theorem bw_t_areturn {a : Nat} : bw_t P (.areturn, r) bs L [.inr (.inl a)] h Q B ↔ Q (.inl (some (.inr (.inl a)))) h := ⟨fun ⟨_, e, k⟩ => by cases e; exact k, fun k => ⟨_, rfl, k⟩⟩
theorem bw_t_return : bw_t P (.return_, r) bs L [] h Q B ↔ Q (.inl none) h := ⟨fun ⟨_, e, k⟩ => by cases e; exact k, fun k => ⟨_, rfl, k⟩⟩
theorem bw_t_athrow : bw_t P (.athrow, r) bs L [] h Q B ↔ Q (.inr r.1) (bi_new h (0, 0) 6) := ⟨fun ⟨_, e, k⟩ => by cases e; exact k, fun k => ⟨_, rfl, k⟩⟩
theorem bw_t_try {i mi n c z : Nat} : bw_t P (.invokevirtual i, (mi, n, c, z)) bs L st h Q B ↔ bw_go (st.drop n) (fun a rest => (bi_k h a).1 = 10 + c ∧ bi_sum rest ≤ 8 ∧ bi_sum (st.take n) = n ∧ bw_r P mi 0 (bi_loc (.inr (.inl a) :: (st.take n).reverse)) [] h (fun o h => match o with
    | .inl v => B (bs.getD 0 0) L (v.toList ++ rest) h
    | .inr e => e + 1 < bs.length ∧ B (bs.getD (e + 1) 0) (L.filter (fun q => !(q.1 == z))) [] h)) := by
  constructor
  · rintro ⟨a, rest, e, k⟩
    have e : st.drop n = .inr (.inl a) :: rest := e
    rw [e]
    exact k
  · intro k
    unfold bw_go at k
    split at k
    · rename_i a rest e
      exact ⟨a, rest, e, k⟩
    · exact k.elim
end BW
