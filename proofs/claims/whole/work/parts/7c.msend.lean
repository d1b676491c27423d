/-! the reference: send -/
theorem bk_ga {α : Type} {L : List α} {w d : α} {i : Nat} (h : i < L.length) : (L ++ [w]).getD i d = L.getD i d := by
  rw [List.getD_eq_getElem?_getD, List.getD_eq_getElem?_getD, List.getElem?_append_left h]
theorem bk_gb {α : Type} {L : List α} {w d : α} : (L ++ [w]).getD L.length d = w := by
  rw [List.getD_eq_getElem?_getD, List.getElem?_append_right (Nat.le_refl _), Nat.sub_self]
  rfl
theorem bk_gm {L : List Nat} {i : Nat} (h : i < L.length) : L.getD i 0 ∈ L := by
  rw [List.getD_eq_getElem?_getD, List.getElem?_eq_getElem h]
  exact List.getElem_mem h
section MG
variable {O : Nat → Prop} {B : Nat → Nat → Nat} {H : List (Nat × ba_G)} {e : Nat} {g0 h h' : bi_H} {x y z : Nat} {S S' : ba_S} {s i : Nat}
/-- a message is built: nothing in it yet -/
def mo_b (B : Nat → Nat → Nat) (h : bi_H) (i s : Nat) (sent spare ep kind a b c d : Int32) : bi_H := bi_sfi (bi_sfi (bi_sfi (bi_sfi (bi_sfi (bi_sfi (bi_sfr (bi_sfi (bi_sfi (bi_sfi h 12 7 (B 12 0) sent) 12 38 (B 12 0) spare) 10 7 (B 10 i) 0) 10 0 (B 10 i) (B 11 s)) 10 1 (B 10 i) ep) 10 2 (B 10 i) kind) 10 3 (B 10 i) a) 10 4 (B 10 i) b) 10 5 (B 10 i) c) 10 6 (B 10 i) d
theorem mo_b_d (h : bi_H) (i s : Nat) (sent spare ep kind a b c d : Int32) : mf B i (mf_P i) (mf_Z i) h (mo_b B h i s sent spare ep kind a b c d) := by
  unfold mo_b
  exact ((((((((((mf.of (md.sfi h (by simp) _)).tr (mf.of (md.sfi _ (by simp) _))).tr (mf.of (md.sfi _ (by simp) _))).tr (mf.sfr _ _)).tr (mf.of (md.sfi _ (by simp) _))).tr (mf.of (md.sfi _ (by simp) _))).tr (mf.of (md.sfi _ (by simp) _))).tr (mf.of (md.sfi _ (by simp) _))).tr (mf.of (md.sfi _ (by simp) _))).tr (mf.of (md.sfi _ (by simp) _)))
theorem mo_b_f (h : bi_H) (i s : Nat) (sent spare ep kind a b c d : Int32) : (bi_fi (mo_b B h i s sent spare ep kind a b c d) 10 1 (B 10 i) = ep ∧ bi_fi (mo_b B h i s sent spare ep kind a b c d) 10 2 (B 10 i) = kind ∧ bi_fi (mo_b B h i s sent spare ep kind a b c d) 10 3 (B 10 i) = a ∧ bi_fi (mo_b B h i s sent spare ep kind a b c d) 10 4 (B 10 i) = b ∧ bi_fi (mo_b B h i s sent spare ep kind a b c d) 10 5 (B 10 i) = c ∧ bi_fi (mo_b B h i s sent spare ep kind a b c d) 10 6 (B 10 i) = d) ∧ bi_fi (mo_b B h i s sent spare ep kind a b c d) 10 7 (B 10 i) = 0 ∧ bi_fr (mo_b B h i s sent spare ep kind a b c d) 10 0 (B 10 i) = B 11 s ∧ bi_fi (mo_b B h i s sent spare ep kind a b c d) 12 7 (B 12 0) = sent ∧ bi_fi (mo_b B h i s sent spare ep kind a b c d) 12 38 (B 12 0) = spare ∧ bi_fi (mo_b B h i s sent spare ep kind a b c d) 12 37 (B 12 0) = bi_fi h 12 37 (B 12 0) := by
  unfold mo_b
  simp [bh_fi_sfi, bh_fi_sfr, bh_fr_sfr, bh_fr_sfi]
theorem mx_last {sx : List Nat} (h : 0 < sx.length) : ∃ l i, sx = l ++ [i] ∧ sx.length = l.length + 1 ∧ sx.getD (sx.length - 1) 0 = i := by
  have hne : sx ≠ [] := fun w => by rw [w] at h; exact absurd h (by decide)
  refine ⟨sx.dropLast, sx.getLast hne, (List.dropLast_concat_getLast hne).symm, ?_, ?_⟩
  · rw [List.length_dropLast]
    omega
  · rw [List.getD_eq_getElem?_getD, List.getLast_eq_getElem, List.getElem?_eq_getElem (by omega)]
    rfl
/-- the message is in flight -/
theorem ms_R.flies (R : ms_R O B H e g0 x y h S) {fx l : List Nat} {i : Nat} (n1 : (fx ++ (l ++ [i])).Nodup) (n2 : ∀ j ∈ fx ++ (l ++ [i]), j < 61) (n3 : fx.length = (bz_F S).length) (n4 : fx.length + (l.length + 1) + e = 61) (n7 : ∀ j, j < fx.length → bi_ar h (B 135 0) j = B 10 (fx.getD j 0) ∧ mb_g B S h (fx.getD j 0) ((bz_F S).getD j (fun _ => 0, []))) (n8 : ∀ j, j < l.length + 1 → bi_ar h (B 136 0) j = B 10 ((l ++ [i]).getD j 0)) (n9 : ∀ q ∈ H, q.1 < 61 ∧ ¬ q.1 ∈ l ++ [i] ∧ (e = 1 → ¬ q.1 ∈ fx) ∧ mb_g B S h q.1 q.2) {hb : bi_H} (d : mf B i (mf_P i) (mf_Z i) h hb) (har : bi_ar hb = bi_ar h) {g : ba_G} (G : mb_g B S hb i g) {v : Int32} (h7 : bi_fi hb 12 7 (B 12 0) = v) (h38 : bi_fi hb 12 38 (B 12 0) = Int32.ofNat l.length) : ms_R O B H e g0 x y (bi_sfi (bi_sar hb (B 135 0) fx.length (B 10 i)) 12 37 (B 12 0) (Int32.ofNat (fx.length + 1))) (bz_sF (bz_sL (bz_sL S 2 v) 1 (Int32.ofNat ((bz_F S).length + 1))) (bz_F S ++ [g])) := by
  have L := R.L
  have hi : i < 61 := n2 i (by simp)
  have hif : ¬ i ∈ fx := fun w => by
    have := (List.nodup_append.mp n1).2.2 i w i (by simp)
    exact this rfl
  have hil : ¬ i ∈ l := fun w => by
    have h1 := (List.nodup_append.mp n1).2.1
    have := (List.nodup_append.mp h1).2.2 i w i (by simp)
    exact this rfl
  have d2 : mf B i (mf_P i) (mf_Z i) hb (bi_sfi (bi_sar hb (B 135 0) fx.length (B 10 i)) 12 37 (B 12 0) (Int32.ofNat (fx.length + 1))) := (mf.sar hb _ _).tr (mf.of (md.sfi _ (by simp) _))
  have Lb := d.lay L hi (S' := S) (fun _ _ => rfl) rfl
  have n56 : (B 136 0 = B 135 0) = False := Lb.ne (mi0 (by decide) rfl) (mi0 (by decide) rfl) (Or.inl (by decide))
  have n56' : (B 136 0 = B 135 0) = False := L.ne (mi0 (by decide) rfl) (mi0 (by decide) rfl) (Or.inl (by decide))
  have n1012 : (B 10 i = B 12 0) = False := Lb.ne (mi1 hi rfl) (mi0 (by decide) rfl) (Or.inl (by decide))
  have gg := fun {j : Nat} (hj : j < 61) (hji : j ≠ i) {g : ba_G} (G : mb_g B S h j g) => (d.tr d2).g L hi hj hji G
  have Gi : mb_g B S (bi_sfi (bi_sar hb (B 135 0) fx.length (B 10 i)) 12 37 (B 12 0) (Int32.ofNat (fx.length + 1))) i g := by
    obtain ⟨g1, g2, n, hn, hl, ec, hc⟩ := G
    refine ⟨?_, g2, n, hn, hl, ?_, hc⟩
    · simp only [bh_fi_sfi, bh_fi_sar]
      rw [if_neg (by omega), if_neg (by omega), if_neg (by omega), if_neg (by omega), if_neg (by omega), if_neg (by omega)]
      exact g1
    · rw [bh_fi_sfi, if_neg (by omega)]
      exact ec
  have ar : ∀ j, bi_ar (bi_sfi (bi_sar hb (B 135 0) fx.length (B 10 i)) 12 37 (B 12 0) (Int32.ofNat (fx.length + 1))) (B 135 0) j = if j = fx.length then B 10 i else bi_ar h (B 135 0) j := fun j => by
    rw [bh_ar_sfi, bh_ar_sar, har]
    by_cases c : j = fx.length
    · rw [if_pos ⟨rfl, c⟩, if_pos c]
    · rw [if_neg (fun w => c w.2), if_neg c]
  refine R.post (d.tr d2) hi ?_ ⟨fx ++ [i], l, ?_, ?_, ?_, ?_, ?_, ?_, fun j hj => ?_, fun j hj => ?_, fun q hq => ?_⟩
  · rw [bh_fi_sfi, if_neg (by omega)]
    exact h7
  · refine List.Perm.nodup ?_ n1
    rw [List.append_assoc]
    exact List.Perm.append_left fx (List.perm_append_comm (l₁ := l) (l₂ := [i]))
  · intro j hj
    refine n2 j ?_
    simp at hj ⊢
    rcases hj with w | w | w <;> simp [w]
  · rw [List.length_append, n3]
    show _ = (bz_F S ++ [g]).length
    rw [List.length_append]
    rfl
  · rw [List.length_append]
    show fx.length + 1 + l.length + e = 61
    omega
  · rw [bh_fi_sfi, if_pos ⟨rfl, rfl, rfl⟩, List.length_append]
    rfl
  · rw [bh_fi_sfi, if_neg (by omega)]
    exact h38
  · rw [List.length_append] at hj
    have hj : j < fx.length + 1 := hj
    rw [ar j]
    show _ ∧ mb_g B S _ _ ((bz_F S ++ [g]).getD j (fun _ => 0, []))
    by_cases c : j = fx.length
    · rw [if_pos c, c, bk_gb, n3, bk_gb]
      exact ⟨rfl, Gi⟩
    · rw [if_neg c, bk_ga (by omega), bk_ga (by omega)]
      have hm := bk_gm (L := fx) (i := j) (by omega)
      obtain ⟨m1, m2⟩ := n7 j (by omega)
      exact ⟨m1, gg (n2 _ (List.mem_append_left _ hm)) (fun w => by rw [w] at hm; exact hif hm) m2⟩
  · rw [bh_ar_sfi, bh_ar_sar, if_neg (fun w => by rw [n56] at w; exact w.1), har]
    have := n8 j (by omega)
    rw [bk_ga hj] at this
    exact this
  · obtain ⟨m1, m2, m3, m4⟩ := n9 q hq
    have hqi : q.1 ≠ i := fun w => m2 (by rw [w]; simp)
    refine ⟨m1, fun w => m2 (List.mem_append_left _ w), fun he w => ?_, gg m1 hqi m4⟩
    rcases List.mem_append.mp w with w | w
    · exact m3 he w
    · exact hqi (List.mem_singleton.mp w)
/-- send: the message is built -/
theorem nl_send0 (R : ms_Q O B H e g0 x y z h S) (hs : s < 8) (hN : s % 4 < bz_N S) {n m : Nat} (hn : n < 60) (h37 : bi_fi h 12 37 (B 12 0) = Int32.ofNat n) (hm : m < 61) (h38 : bi_fi h 12 38 (B 12 0) = Int32.ofNat (m + 1)) {i : Nat} (hi : i < 61) (ha : bi_ar h (B 136 0) m = B 10 i) (kind a b c d : Int32) (Q : bw_Q) (hQ : bw_r bt_P 73 (if kind = 3 then 3 else 4) [(0, .inr (.inl (B 12 0))), (1, .inr (.inl (B 11 s))), (2, .inl kind), (7, .inr (.inl (B 10 i)))] [] (mo_b B h i s (bz_L S 2 + 1) (Int32.ofNat m) (bs_c (bz_T S s) 7) kind a b c d) Q) : bw_r bt_P 73 0 (bi_loc [.inr (.inl (B 12 0)), .inr (.inl (B 11 s)), .inl kind, .inl a, .inl b, .inl c, .inl d]) [] h Q := by
  have L := R.L
  have q1 : n < 60001 := by omega
  have q2 : m < 60001 := by omega
  have c60 : (Int32.ofNat n = 60) = False := bn_eqF (b := 60) (by omega) (by decide) (by omega)
  have es : Int32.ofNat (m + 1) - 1 = Int32.ofNat m := bq_sub1 (Nat.succ_pos m)
  have f7 := R.f7
  have c7 := R.c7 hs hN
  have k10 := L.k10 hi
  unfold mo_b at hQ
  by_cases c3 : kind = 3
  · subst c3
    rw [if_pos rfl] at hQ
    (refine bw_step rfl ?_; simp +decide only [bw_gi_s, bw_ga_s, bw_go_s, bw_w_i, bw_w_a, bw_w_l, bw_sum_n, bw_sum_c, bw_xs_n, bw_iconst, bw_bipush, bw_sipush, bw_ldc, bw_ldc_w, bw_anull, bw_iload0, bw_aload0, bw_istore0, bw_astore0, bw_iload1, bw_aload1, bw_istore1, bw_astore1, bw_iload2, bw_aload2, bw_istore2, bw_astore2, bw_iload3, bw_aload3, bw_istore3, bw_astore3, bw_iload, bw_aload, bw_istore, bw_astore, bw_iinc, bw_iadd, bw_isub, bw_imul, bw_iand, bw_ixor, bw_idiv, bw_irem, bw_i2l, bw_lcmp, bw_dupi, bw_dupa, bw_dup2ia, bw_dup2ii, bw_getf0, bw_getf2, bw_getf1, bw_putf0, bw_putf2, bw_putf1, bw_iaload, bw_baload, bw_laload, bw_aaload, bw_iastore, bw_bastore, bw_lastore, bw_aastore, bw_alen, bw_newa_int, bw_newa_boolean, bw_newa_long, bw_anewa, bw_multi, bw_new, bw_static, bw_virt, bw_obj, bw_t_nop, bw_t_goto, bw_t_eq_z, bw_t_eq_i, bw_t_ne_z, bw_t_ne_i, bw_t_lt_z, bw_t_lt_i, bw_t_ge_z, bw_t_ge_i, bw_t_gt_z, bw_t_gt_i, bw_t_le_z, bw_t_le_i, bw_t_null, bw_t_nonnull, bw_t_switch, bw_t_ireturn0, bw_t_ireturn1, bw_t_areturn, bw_t_return, bw_t_athrow, bw_t_try, List.lookup_cons, List.lookup_nil, bi_st, List.filter_cons, List.filter_nil, List.take_succ_cons, List.take_zero, List.take_nil, List.drop_succ_cons, List.drop_zero, List.reverse_cons, List.reverse_nil, List.nil_append, List.cons_append, Option.toList_some, Option.toList_none, List.length_cons, List.length_nil, bi_loc, List.zipIdx_cons, List.zipIdx_nil, List.map_cons, List.map_nil, List.getD_cons_zero, List.getD_cons_succ, Nat.zero_add, Bool.not_true, Bool.not_false, Bool.false_eq_true, if_true, if_false, ite_true, ite_false, ↓reduceIte, true_and, and_true, Bool.not_eq_true, beq_self_eq_true, Nat.reduceBEq, Nat.reduceEqDiff, Nat.reduceAdd, Nat.reduceLeDiff, Nat.reduceLT, Nat.reduceSub, Nat.reduceMul, Int32.reduceOfInt, Int32.reduceOfNat, Int32.reduceToNatClampNeg, Int32.reduceLT, Int32.reduceLE, Int32.reduceAdd, Int32.reduceSub, Int32.reduceMul, Int32.reduceDiv, Int32.reduceToInt, Int.reduceLT, Int.reduceSub, Int.reduceToNat, not_false_eq_true, ne_eq, or_true, true_or, or_false, false_or, and_false, false_and, not_true_eq_false, reduceCtorEq, and_self, or_self, eq_self, bh_k_sfi, bh_k_sfr, bh_k_sai, bh_k_sar, bh_k_new, bh_fi_sfi, bh_fi_sfr, bh_fi_sai, bh_fi_sar, bh_fi_new, bh_fr_sfi, bh_fr_sfr, bh_fr_sai, bh_fr_sar, bh_fr_new, bh_ai_sfi, bh_ai_sfr, bh_ai_sai, bh_ai_sar, bh_ai_new, bh_ar_sfi, bh_ar_sfr, bh_ar_sai, bh_ar_sar, bh_ar_new, bh_nx_sfi, bh_nx_sfr, bh_nx_sai, bh_nx_sar, bh_nx_new, bh_nc_sfi, bh_nc_sfr, bh_nc_sai, bh_nc_sar, bh_nc_new, bh_ns_sfi, bh_ns_sfr, bh_ns_sai, bh_ns_sar, bh_ns_new, bh_k_new2, bh_fi_new2, bh_fr_new2, bh_ai_new2, bh_ar_new2, bh_nx_new2, bh_nc_new2, bh_ns_new2, Nat.lt_irrefl, Nat.le_refl, bq_le0, bq_neg, bq_nat, bq_lt, bq_le, bq_eq, bn_one, bn_dec, L.k12, f7, h37, c60, bl_i1])
    (refine bw_step rfl ?_; simp +decide only [bw_gi_s, bw_ga_s, bw_go_s, bw_w_i, bw_w_a, bw_w_l, bw_sum_n, bw_sum_c, bw_xs_n, bw_iconst, bw_bipush, bw_sipush, bw_ldc, bw_ldc_w, bw_anull, bw_iload0, bw_aload0, bw_istore0, bw_astore0, bw_iload1, bw_aload1, bw_istore1, bw_astore1, bw_iload2, bw_aload2, bw_istore2, bw_astore2, bw_iload3, bw_aload3, bw_istore3, bw_astore3, bw_iload, bw_aload, bw_istore, bw_astore, bw_iinc, bw_iadd, bw_isub, bw_imul, bw_iand, bw_ixor, bw_idiv, bw_irem, bw_i2l, bw_lcmp, bw_dupi, bw_dupa, bw_dup2ia, bw_dup2ii, bw_getf0, bw_getf2, bw_getf1, bw_putf0, bw_putf2, bw_putf1, bw_iaload, bw_baload, bw_laload, bw_aaload, bw_iastore, bw_bastore, bw_lastore, bw_aastore, bw_alen, bw_newa_int, bw_newa_boolean, bw_newa_long, bw_anewa, bw_multi, bw_new, bw_static, bw_virt, bw_obj, bw_t_nop, bw_t_goto, bw_t_eq_z, bw_t_eq_i, bw_t_ne_z, bw_t_ne_i, bw_t_lt_z, bw_t_lt_i, bw_t_ge_z, bw_t_ge_i, bw_t_gt_z, bw_t_gt_i, bw_t_le_z, bw_t_le_i, bw_t_null, bw_t_nonnull, bw_t_switch, bw_t_ireturn0, bw_t_ireturn1, bw_t_areturn, bw_t_return, bw_t_athrow, bw_t_try, List.lookup_cons, List.lookup_nil, bi_st, List.filter_cons, List.filter_nil, List.take_succ_cons, List.take_zero, List.take_nil, List.drop_succ_cons, List.drop_zero, List.reverse_cons, List.reverse_nil, List.nil_append, List.cons_append, Option.toList_some, Option.toList_none, List.length_cons, List.length_nil, bi_loc, List.zipIdx_cons, List.zipIdx_nil, List.map_cons, List.map_nil, List.getD_cons_zero, List.getD_cons_succ, Nat.zero_add, Bool.not_true, Bool.not_false, Bool.false_eq_true, if_true, if_false, ite_true, ite_false, ↓reduceIte, true_and, and_true, Bool.not_eq_true, beq_self_eq_true, Nat.reduceBEq, Nat.reduceEqDiff, Nat.reduceAdd, Nat.reduceLeDiff, Nat.reduceLT, Nat.reduceSub, Nat.reduceMul, Int32.reduceOfInt, Int32.reduceOfNat, Int32.reduceToNatClampNeg, Int32.reduceLT, Int32.reduceLE, Int32.reduceAdd, Int32.reduceSub, Int32.reduceMul, Int32.reduceDiv, Int32.reduceToInt, Int.reduceLT, Int.reduceSub, Int.reduceToNat, not_false_eq_true, ne_eq, or_true, true_or, or_false, false_or, and_false, false_and, not_true_eq_false, reduceCtorEq, and_self, or_self, eq_self, bh_k_sfi, bh_k_sfr, bh_k_sai, bh_k_sar, bh_k_new, bh_fi_sfi, bh_fi_sfr, bh_fi_sai, bh_fi_sar, bh_fi_new, bh_fr_sfi, bh_fr_sfr, bh_fr_sai, bh_fr_sar, bh_fr_new, bh_ai_sfi, bh_ai_sfr, bh_ai_sai, bh_ai_sar, bh_ai_new, bh_ar_sfi, bh_ar_sfr, bh_ar_sai, bh_ar_sar, bh_ar_new, bh_nx_sfi, bh_nx_sfr, bh_nx_sai, bh_nx_sar, bh_nx_new, bh_nc_sfi, bh_nc_sfr, bh_nc_sai, bh_nc_sar, bh_nc_new, bh_ns_sfi, bh_ns_sfr, bh_ns_sai, bh_ns_sar, bh_ns_new, bh_k_new2, bh_fi_new2, bh_fr_new2, bh_ai_new2, bh_ar_new2, bh_nx_new2, bh_nc_new2, bh_ns_new2, Nat.lt_irrefl, Nat.le_refl, bq_le0, bq_neg, bq_nat, bq_lt, bq_le, bq_eq, bn_one, bn_dec, L.k12, L.k11 hs hN, k10, L.r36, L.k136, h38, es, q2, hm, ha, c7, bl_i0, bl_i1])
    (refine bw_sub2 _ ?_ (hQ); exact ⟨rfl, rfl, rfl, rfl, trivial⟩)
  · rw [if_neg c3] at hQ
    have c3 : (kind = 3) = False := eq_false c3
    (refine bw_step rfl ?_; simp +decide only [bw_gi_s, bw_ga_s, bw_go_s, bw_w_i, bw_w_a, bw_w_l, bw_sum_n, bw_sum_c, bw_xs_n, bw_iconst, bw_bipush, bw_sipush, bw_ldc, bw_ldc_w, bw_anull, bw_iload0, bw_aload0, bw_istore0, bw_astore0, bw_iload1, bw_aload1, bw_istore1, bw_astore1, bw_iload2, bw_aload2, bw_istore2, bw_astore2, bw_iload3, bw_aload3, bw_istore3, bw_astore3, bw_iload, bw_aload, bw_istore, bw_astore, bw_iinc, bw_iadd, bw_isub, bw_imul, bw_iand, bw_ixor, bw_idiv, bw_irem, bw_i2l, bw_lcmp, bw_dupi, bw_dupa, bw_dup2ia, bw_dup2ii, bw_getf0, bw_getf2, bw_getf1, bw_putf0, bw_putf2, bw_putf1, bw_iaload, bw_baload, bw_laload, bw_aaload, bw_iastore, bw_bastore, bw_lastore, bw_aastore, bw_alen, bw_newa_int, bw_newa_boolean, bw_newa_long, bw_anewa, bw_multi, bw_new, bw_static, bw_virt, bw_obj, bw_t_nop, bw_t_goto, bw_t_eq_z, bw_t_eq_i, bw_t_ne_z, bw_t_ne_i, bw_t_lt_z, bw_t_lt_i, bw_t_ge_z, bw_t_ge_i, bw_t_gt_z, bw_t_gt_i, bw_t_le_z, bw_t_le_i, bw_t_null, bw_t_nonnull, bw_t_switch, bw_t_ireturn0, bw_t_ireturn1, bw_t_areturn, bw_t_return, bw_t_athrow, bw_t_try, List.lookup_cons, List.lookup_nil, bi_st, List.filter_cons, List.filter_nil, List.take_succ_cons, List.take_zero, List.take_nil, List.drop_succ_cons, List.drop_zero, List.reverse_cons, List.reverse_nil, List.nil_append, List.cons_append, Option.toList_some, Option.toList_none, List.length_cons, List.length_nil, bi_loc, List.zipIdx_cons, List.zipIdx_nil, List.map_cons, List.map_nil, List.getD_cons_zero, List.getD_cons_succ, Nat.zero_add, Bool.not_true, Bool.not_false, Bool.false_eq_true, if_true, if_false, ite_true, ite_false, ↓reduceIte, true_and, and_true, Bool.not_eq_true, beq_self_eq_true, Nat.reduceBEq, Nat.reduceEqDiff, Nat.reduceAdd, Nat.reduceLeDiff, Nat.reduceLT, Nat.reduceSub, Nat.reduceMul, Int32.reduceOfInt, Int32.reduceOfNat, Int32.reduceToNatClampNeg, Int32.reduceLT, Int32.reduceLE, Int32.reduceAdd, Int32.reduceSub, Int32.reduceMul, Int32.reduceDiv, Int32.reduceToInt, Int.reduceLT, Int.reduceSub, Int.reduceToNat, not_false_eq_true, ne_eq, or_true, true_or, or_false, false_or, and_false, false_and, not_true_eq_false, reduceCtorEq, and_self, or_self, eq_self, bh_k_sfi, bh_k_sfr, bh_k_sai, bh_k_sar, bh_k_new, bh_fi_sfi, bh_fi_sfr, bh_fi_sai, bh_fi_sar, bh_fi_new, bh_fr_sfi, bh_fr_sfr, bh_fr_sai, bh_fr_sar, bh_fr_new, bh_ai_sfi, bh_ai_sfr, bh_ai_sai, bh_ai_sar, bh_ai_new, bh_ar_sfi, bh_ar_sfr, bh_ar_sai, bh_ar_sar, bh_ar_new, bh_nx_sfi, bh_nx_sfr, bh_nx_sai, bh_nx_sar, bh_nx_new, bh_nc_sfi, bh_nc_sfr, bh_nc_sai, bh_nc_sar, bh_nc_new, bh_ns_sfi, bh_ns_sfr, bh_ns_sai, bh_ns_sar, bh_ns_new, bh_k_new2, bh_fi_new2, bh_fr_new2, bh_ai_new2, bh_ar_new2, bh_nx_new2, bh_nc_new2, bh_ns_new2, Nat.lt_irrefl, Nat.le_refl, bq_le0, bq_neg, bq_nat, bq_lt, bq_le, bq_eq, bn_one, bn_dec, L.k12, f7, h37, c60, bl_i1])
    (refine bw_step rfl ?_; simp +decide only [bw_gi_s, bw_ga_s, bw_go_s, bw_w_i, bw_w_a, bw_w_l, bw_sum_n, bw_sum_c, bw_xs_n, bw_iconst, bw_bipush, bw_sipush, bw_ldc, bw_ldc_w, bw_anull, bw_iload0, bw_aload0, bw_istore0, bw_astore0, bw_iload1, bw_aload1, bw_istore1, bw_astore1, bw_iload2, bw_aload2, bw_istore2, bw_astore2, bw_iload3, bw_aload3, bw_istore3, bw_astore3, bw_iload, bw_aload, bw_istore, bw_astore, bw_iinc, bw_iadd, bw_isub, bw_imul, bw_iand, bw_ixor, bw_idiv, bw_irem, bw_i2l, bw_lcmp, bw_dupi, bw_dupa, bw_dup2ia, bw_dup2ii, bw_getf0, bw_getf2, bw_getf1, bw_putf0, bw_putf2, bw_putf1, bw_iaload, bw_baload, bw_laload, bw_aaload, bw_iastore, bw_bastore, bw_lastore, bw_aastore, bw_alen, bw_newa_int, bw_newa_boolean, bw_newa_long, bw_anewa, bw_multi, bw_new, bw_static, bw_virt, bw_obj, bw_t_nop, bw_t_goto, bw_t_eq_z, bw_t_eq_i, bw_t_ne_z, bw_t_ne_i, bw_t_lt_z, bw_t_lt_i, bw_t_ge_z, bw_t_ge_i, bw_t_gt_z, bw_t_gt_i, bw_t_le_z, bw_t_le_i, bw_t_null, bw_t_nonnull, bw_t_switch, bw_t_ireturn0, bw_t_ireturn1, bw_t_areturn, bw_t_return, bw_t_athrow, bw_t_try, List.lookup_cons, List.lookup_nil, bi_st, List.filter_cons, List.filter_nil, List.take_succ_cons, List.take_zero, List.take_nil, List.drop_succ_cons, List.drop_zero, List.reverse_cons, List.reverse_nil, List.nil_append, List.cons_append, Option.toList_some, Option.toList_none, List.length_cons, List.length_nil, bi_loc, List.zipIdx_cons, List.zipIdx_nil, List.map_cons, List.map_nil, List.getD_cons_zero, List.getD_cons_succ, Nat.zero_add, Bool.not_true, Bool.not_false, Bool.false_eq_true, if_true, if_false, ite_true, ite_false, ↓reduceIte, true_and, and_true, Bool.not_eq_true, beq_self_eq_true, Nat.reduceBEq, Nat.reduceEqDiff, Nat.reduceAdd, Nat.reduceLeDiff, Nat.reduceLT, Nat.reduceSub, Nat.reduceMul, Int32.reduceOfInt, Int32.reduceOfNat, Int32.reduceToNatClampNeg, Int32.reduceLT, Int32.reduceLE, Int32.reduceAdd, Int32.reduceSub, Int32.reduceMul, Int32.reduceDiv, Int32.reduceToInt, Int.reduceLT, Int.reduceSub, Int.reduceToNat, not_false_eq_true, ne_eq, or_true, true_or, or_false, false_or, and_false, false_and, not_true_eq_false, reduceCtorEq, and_self, or_self, eq_self, bh_k_sfi, bh_k_sfr, bh_k_sai, bh_k_sar, bh_k_new, bh_fi_sfi, bh_fi_sfr, bh_fi_sai, bh_fi_sar, bh_fi_new, bh_fr_sfi, bh_fr_sfr, bh_fr_sai, bh_fr_sar, bh_fr_new, bh_ai_sfi, bh_ai_sfr, bh_ai_sai, bh_ai_sar, bh_ai_new, bh_ar_sfi, bh_ar_sfr, bh_ar_sai, bh_ar_sar, bh_ar_new, bh_nx_sfi, bh_nx_sfr, bh_nx_sai, bh_nx_sar, bh_nx_new, bh_nc_sfi, bh_nc_sfr, bh_nc_sai, bh_nc_sar, bh_nc_new, bh_ns_sfi, bh_ns_sfr, bh_ns_sai, bh_ns_sar, bh_ns_new, bh_k_new2, bh_fi_new2, bh_fr_new2, bh_ai_new2, bh_ar_new2, bh_nx_new2, bh_nc_new2, bh_ns_new2, Nat.lt_irrefl, Nat.le_refl, bq_le0, bq_neg, bq_nat, bq_lt, bq_le, bq_eq, bn_one, bn_dec, L.k12, L.k11 hs hN, k10, L.r36, L.k136, h38, es, q2, hm, ha, c7, c3, bl_i0, bl_i1])
    (refine bw_sub2 _ ?_ (hQ); exact ⟨rfl, rfl, rfl, rfl, trivial⟩)
end MG
