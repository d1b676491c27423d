/-! the class's vault: snapshots put and taken away -/
theorem ba_snoc_getD {α : Type} (l : List α) (q d : α) (i : Nat) : (l ++ [q]).getD i d = if i < l.length then l.getD i d else if i = l.length then q else d := by
  simp only [List.getD_eq_getElem?_getD]
  by_cases h : i < l.length
  · rw [List.getElem?_append_left h, if_pos h]
  · rw [List.getElem?_append_right (by omega), if_neg h]
    by_cases h2 : i = l.length
    · rw [if_pos h2, h2, Nat.sub_self]
      rfl
    · rw [if_neg h2, List.getElem?_eq_none (by simp; omega)]
      rfl
theorem ba_ln_snoc (l : List (Nat × Nat)) (q : Nat × Nat) : ba_ln (l ++ [q]) = q.2 := by
  unfold ba_ln
  rw [ba_snoc_getD, List.length_append, if_neg (by simp), if_pos (by simp)]
theorem ba_la_snoc (l : List (Nat × Nat)) (q : Nat × Nat) : ba_la (l ++ [q]) = q.1 := by
  unfold ba_la
  rw [ba_snoc_getD, List.length_append, if_neg (by simp), if_pos (by simp)]
theorem ba_erase_getD (l : List (Nat × Nat)) (k i : Nat) : (l.eraseIdx k).getD i (0, 0) = if i < k then l.getD i (0, 0) else l.getD (i + 1) (0, 0) := by
  simp only [List.getD_eq_getElem?_getD, List.getElem?_eraseIdx]
  by_cases h : i < k
  · rw [if_pos h, if_pos h]
  · rw [if_neg h, if_neg h]
/-- without one in the middle -/
theorem ba_erase_split {l : List (Nat × Nat)} {k : Nat} (hk : k < l.length) : l = l.take k ++ l.getD k (0, 0) :: l.drop (k + 1) ∧ l.eraseIdx k = l.take k ++ l.drop (k + 1) := by
  refine ⟨?_, List.eraseIdx_eq_take_drop_succ l k⟩
  rw [← ba_drop_cons hk, List.take_append_drop]
theorem ba_take_ln {l : List (Nat × Nat)} {k : Nat} (hk : k ≤ l.length) : ba_ln (l.take k) = if k = 0 then 0 else (l.getD (k - 1) (0, 0)).2 := by
  unfold ba_ln
  rw [List.length_take, Nat.min_eq_left hk]
  by_cases h : k = 0
  · subst h
    rfl
  · rw [if_neg h]
    simp only [List.getD_eq_getElem?_getD]
    rw [List.getElem?_take_of_lt (by omega)]
theorem ba_take_la {l : List (Nat × Nat)} {k : Nat} (hk : k ≤ l.length) : ba_la (l.take k) = if k = 0 then 0 else (l.getD (k - 1) (0, 0)).1 := by
  unfold ba_la
  rw [List.length_take, Nat.min_eq_left hk]
  by_cases h : k = 0
  · subst h
    rfl
  · rw [if_neg h]
    simp only [List.getD_eq_getElem?_getD]
    rw [List.getElem?_take_of_lt (by omega)]
/-- NOW a snapshot, where it is KEPT -/
theorem bs_need_snoc (W : ba_W) (t : ba_T) (i : Nat) (hkn : bs_kept t = bs_now t) : bs_need W (bs_ss t (bs_sn t ++ [(i, bs_now t)])) = bs_need W t := by
  have e1 := bs_need_eq W (bs_ss t (bs_sn t ++ [(i, bs_now t)]))
  have a1 : bs_sn (bs_ss t (bs_sn t ++ [(i, bs_now t)])) = bs_sn t ++ [(i, bs_now t)] := rfl
  have a2 : bs_kept (bs_ss t (bs_sn t ++ [(i, bs_now t)])) = bs_kept t := rfl
  have a3 : bs_now (bs_ss t (bs_sn t ++ [(i, bs_now t)])) = bs_now t := rfl
  have a4 : bs_line (bs_ss t (bs_sn t ++ [(i, bs_now t)])) = bs_now t := ba_ln_snoc _ _
  have a5 : bs_line t = ba_ln (bs_sn t) := rfl
  rw [a1, a2, a3, a4, hkn, ba_pl_0, List.map_append, ba_nd_split, ba_end_ln] at e1
  rw [e1, bs_need_eq, hkn, ba_pl_0, a5]
  have a6 : ba_nd W (ba_ln (bs_sn t)) (List.map (fun q => q.2) [(i, bs_now t)]) = ba_pl W (ba_l W (ba_ln (bs_sn t))) (ba_l W (bs_now t) - ba_l W (ba_ln (bs_sn t))) (bs_now t) + 0 := rfl
  omega
section CQ
variable {A : Nat → Nat → Nat} {h0 h : bi_H} {x y : Nat} {S : ba_S} {s : Nat}
/-- Vault.shelve, as it stands -/
theorem c_shelve0 {p : Nat} {W : ba_W} (R : cw_R A p W h) (hs : s < 8) {c : Nat} (hc : c < 16) (e : bi_fi h 7 9 (A 7 s) = Int32.ofNat c) (v : Int32) (K : Option bi_V → bi_H → Prop) : bw_C bt_P 149 [.inr (.inl (A 7 s)), .inl v] h K ↔ K none (bi_sfi (bi_sai (bi_sai h (A 55 s) c v) (A 56 s) c (bi_fi h 7 4 (A 7 s))) 7 9 (A 7 s) (Int32.ofNat (c + 1))) := by
  have q1 : c < 60001 := by omega
  have q2 : ((16 : Int32) ≤ Int32.ofNat c) = False := by
    rw [show (16 : Int32) = Int32.ofNat 16 from rfl, bn_le (by decide) (by omega)]
    simp
    omega
  refine bw_C_iff ?_ K
  (refine bw_step rfl ?_; simp +decide only [bw_gi_s, bw_ga_s, bw_go_s, bw_w_i, bw_w_a, bw_w_l, bw_sum_n, bw_sum_c, bw_xs_n, bw_iconst, bw_bipush, bw_sipush, bw_ldc, bw_ldc_w, bw_anull, bw_iload0, bw_aload0, bw_istore0, bw_astore0, bw_iload1, bw_aload1, bw_istore1, bw_astore1, bw_iload2, bw_aload2, bw_istore2, bw_astore2, bw_iload3, bw_aload3, bw_istore3, bw_astore3, bw_iload, bw_aload, bw_istore, bw_astore, bw_iinc, bw_iadd, bw_isub, bw_imul, bw_iand, bw_ixor, bw_idiv, bw_irem, bw_i2l, bw_lcmp, bw_dupi, bw_dupa, bw_dup2ia, bw_dup2ii, bw_getf0, bw_getf2, bw_getf1, bw_putf0, bw_putf2, bw_putf1, bw_iaload, bw_baload, bw_laload, bw_aaload, bw_iastore, bw_bastore, bw_lastore, bw_aastore, bw_alen, bw_newa_int, bw_newa_boolean, bw_newa_long, bw_anewa, bw_multi, bw_new, bw_static, bw_virt, bw_obj, bw_t_nop, bw_t_goto, bw_t_eq_z, bw_t_eq_i, bw_t_ne_z, bw_t_ne_i, bw_t_lt_z, bw_t_lt_i, bw_t_ge_z, bw_t_ge_i, bw_t_gt_z, bw_t_gt_i, bw_t_le_z, bw_t_le_i, bw_t_null, bw_t_nonnull, bw_t_switch, bw_t_ireturn0, bw_t_ireturn1, bw_t_areturn, bw_t_return, bw_t_athrow, bw_t_try, List.lookup_cons, List.lookup_nil, bi_st, List.filter_cons, List.filter_nil, List.take_succ_cons, List.take_zero, List.take_nil, List.drop_succ_cons, List.drop_zero, List.reverse_cons, List.reverse_nil, List.nil_append, List.cons_append, Option.toList_some, Option.toList_none, List.length_cons, List.length_nil, bi_loc, List.zipIdx_cons, List.zipIdx_nil, List.map_cons, List.map_nil, List.getD_cons_zero, List.getD_cons_succ, Nat.zero_add, Bool.not_true, Bool.not_false, Bool.false_eq_true, if_true, if_false, ite_true, ite_false, ↓reduceIte, true_and, and_true, Bool.not_eq_true, beq_self_eq_true, Nat.reduceBEq, Nat.reduceEqDiff, Nat.reduceAdd, Nat.reduceLeDiff, Nat.reduceLT, Nat.reduceSub, Nat.reduceMul, Int32.reduceOfInt, Int32.reduceOfNat, Int32.reduceToNatClampNeg, Int32.reduceLT, Int32.reduceLE, Int32.reduceAdd, Int32.reduceSub, Int32.reduceMul, Int32.reduceDiv, Int32.reduceToInt, Int.reduceLT, Int.reduceSub, Int.reduceToNat, not_false_eq_true, ne_eq, or_true, true_or, or_false, false_or, and_false, false_and, not_true_eq_false, reduceCtorEq, and_self, or_self, eq_self, bh_k_sfi, bh_k_sfr, bh_k_sai, bh_k_sar, bh_k_new, bh_fi_sfi, bh_fi_sfr, bh_fi_sai, bh_fi_sar, bh_fi_new, bh_fr_sfi, bh_fr_sfr, bh_fr_sai, bh_fr_sar, bh_fr_new, bh_ai_sfi, bh_ai_sfr, bh_ai_sai, bh_ai_sar, bh_ai_new, bh_ar_sfi, bh_ar_sfr, bh_ar_sai, bh_ar_sar, bh_ar_new, bh_nx_sfi, bh_nx_sfr, bh_nx_sai, bh_nx_sar, bh_nx_new, bh_nc_sfi, bh_nc_sfr, bh_nc_sai, bh_nc_sar, bh_nc_new, bh_ns_sfi, bh_ns_sfr, bh_ns_sai, bh_ns_sar, bh_ns_new, bh_k_new2, bh_fi_new2, bh_fr_new2, bh_ai_new2, bh_ar_new2, bh_nx_new2, bh_nc_new2, bh_ns_new2, Nat.lt_irrefl, Nat.le_refl, bq_le0, bq_neg, bq_nat, bq_lt, bq_le, bq_eq, bn_one, bn_dec, R.k7 hs, e, q2])
  (refine bw_step rfl ?_; simp +decide only [bw_gi_s, bw_ga_s, bw_go_s, bw_w_i, bw_w_a, bw_w_l, bw_sum_n, bw_sum_c, bw_xs_n, bw_iconst, bw_bipush, bw_sipush, bw_ldc, bw_ldc_w, bw_anull, bw_iload0, bw_aload0, bw_istore0, bw_astore0, bw_iload1, bw_aload1, bw_istore1, bw_astore1, bw_iload2, bw_aload2, bw_istore2, bw_astore2, bw_iload3, bw_aload3, bw_istore3, bw_astore3, bw_iload, bw_aload, bw_istore, bw_astore, bw_iinc, bw_iadd, bw_isub, bw_imul, bw_iand, bw_ixor, bw_idiv, bw_irem, bw_i2l, bw_lcmp, bw_dupi, bw_dupa, bw_dup2ia, bw_dup2ii, bw_getf0, bw_getf2, bw_getf1, bw_putf0, bw_putf2, bw_putf1, bw_iaload, bw_baload, bw_laload, bw_aaload, bw_iastore, bw_bastore, bw_lastore, bw_aastore, bw_alen, bw_newa_int, bw_newa_boolean, bw_newa_long, bw_anewa, bw_multi, bw_new, bw_static, bw_virt, bw_obj, bw_t_nop, bw_t_goto, bw_t_eq_z, bw_t_eq_i, bw_t_ne_z, bw_t_ne_i, bw_t_lt_z, bw_t_lt_i, bw_t_ge_z, bw_t_ge_i, bw_t_gt_z, bw_t_gt_i, bw_t_le_z, bw_t_le_i, bw_t_null, bw_t_nonnull, bw_t_switch, bw_t_ireturn0, bw_t_ireturn1, bw_t_areturn, bw_t_return, bw_t_athrow, bw_t_try, List.lookup_cons, List.lookup_nil, bi_st, List.filter_cons, List.filter_nil, List.take_succ_cons, List.take_zero, List.take_nil, List.drop_succ_cons, List.drop_zero, List.reverse_cons, List.reverse_nil, List.nil_append, List.cons_append, Option.toList_some, Option.toList_none, List.length_cons, List.length_nil, bi_loc, List.zipIdx_cons, List.zipIdx_nil, List.map_cons, List.map_nil, List.getD_cons_zero, List.getD_cons_succ, Nat.zero_add, Bool.not_true, Bool.not_false, Bool.false_eq_true, if_true, if_false, ite_true, ite_false, ↓reduceIte, true_and, and_true, Bool.not_eq_true, beq_self_eq_true, Nat.reduceBEq, Nat.reduceEqDiff, Nat.reduceAdd, Nat.reduceLeDiff, Nat.reduceLT, Nat.reduceSub, Nat.reduceMul, Int32.reduceOfInt, Int32.reduceOfNat, Int32.reduceToNatClampNeg, Int32.reduceLT, Int32.reduceLE, Int32.reduceAdd, Int32.reduceSub, Int32.reduceMul, Int32.reduceDiv, Int32.reduceToInt, Int.reduceLT, Int.reduceSub, Int.reduceToNat, not_false_eq_true, ne_eq, or_true, true_or, or_false, false_or, and_false, false_and, not_true_eq_false, reduceCtorEq, and_self, or_self, eq_self, bh_k_sfi, bh_k_sfr, bh_k_sai, bh_k_sar, bh_k_new, bh_fi_sfi, bh_fi_sfr, bh_fi_sai, bh_fi_sar, bh_fi_new, bh_fr_sfi, bh_fr_sfr, bh_fr_sai, bh_fr_sar, bh_fr_new, bh_ai_sfi, bh_ai_sfr, bh_ai_sai, bh_ai_sar, bh_ai_new, bh_ar_sfi, bh_ar_sfr, bh_ar_sai, bh_ar_sar, bh_ar_new, bh_nx_sfi, bh_nx_sfr, bh_nx_sai, bh_nx_sar, bh_nx_new, bh_nc_sfi, bh_nc_sfr, bh_nc_sai, bh_nc_sar, bh_nc_new, bh_ns_sfi, bh_ns_sfr, bh_ns_sai, bh_ns_sar, bh_ns_new, bh_k_new2, bh_fi_new2, bh_fr_new2, bh_ai_new2, bh_ar_new2, bh_nx_new2, bh_nc_new2, bh_ns_new2, Nat.lt_irrefl, Nat.le_refl, bq_le0, bq_neg, bq_nat, bq_lt, bq_le, bq_eq, bn_one, bn_dec, R.k7 hs, R.r77 hs, R.r78 hs, R.k55 hs, R.k56 hs, e, q1, hc])
  (refine bw_step rfl ?_; simp +decide only [bw_gi_s, bw_ga_s, bw_go_s, bw_w_i, bw_w_a, bw_w_l, bw_sum_n, bw_sum_c, bw_xs_n, bw_iconst, bw_bipush, bw_sipush, bw_ldc, bw_ldc_w, bw_anull, bw_iload0, bw_aload0, bw_istore0, bw_astore0, bw_iload1, bw_aload1, bw_istore1, bw_astore1, bw_iload2, bw_aload2, bw_istore2, bw_astore2, bw_iload3, bw_aload3, bw_istore3, bw_astore3, bw_iload, bw_aload, bw_istore, bw_astore, bw_iinc, bw_iadd, bw_isub, bw_imul, bw_iand, bw_ixor, bw_idiv, bw_irem, bw_i2l, bw_lcmp, bw_dupi, bw_dupa, bw_dup2ia, bw_dup2ii, bw_getf0, bw_getf2, bw_getf1, bw_putf0, bw_putf2, bw_putf1, bw_iaload, bw_baload, bw_laload, bw_aaload, bw_iastore, bw_bastore, bw_lastore, bw_aastore, bw_alen, bw_newa_int, bw_newa_boolean, bw_newa_long, bw_anewa, bw_multi, bw_new, bw_static, bw_virt, bw_obj, bw_t_nop, bw_t_goto, bw_t_eq_z, bw_t_eq_i, bw_t_ne_z, bw_t_ne_i, bw_t_lt_z, bw_t_lt_i, bw_t_ge_z, bw_t_ge_i, bw_t_gt_z, bw_t_gt_i, bw_t_le_z, bw_t_le_i, bw_t_null, bw_t_nonnull, bw_t_switch, bw_t_ireturn0, bw_t_ireturn1, bw_t_areturn, bw_t_return, bw_t_athrow, bw_t_try, List.lookup_cons, List.lookup_nil, bi_st, List.filter_cons, List.filter_nil, List.take_succ_cons, List.take_zero, List.take_nil, List.drop_succ_cons, List.drop_zero, List.reverse_cons, List.reverse_nil, List.nil_append, List.cons_append, Option.toList_some, Option.toList_none, List.length_cons, List.length_nil, bi_loc, List.zipIdx_cons, List.zipIdx_nil, List.map_cons, List.map_nil, List.getD_cons_zero, List.getD_cons_succ, Nat.zero_add, Bool.not_true, Bool.not_false, Bool.false_eq_true, if_true, if_false, ite_true, ite_false, ↓reduceIte, true_and, and_true, Bool.not_eq_true, beq_self_eq_true, Nat.reduceBEq, Nat.reduceEqDiff, Nat.reduceAdd, Nat.reduceLeDiff, Nat.reduceLT, Nat.reduceSub, Nat.reduceMul, Int32.reduceOfInt, Int32.reduceOfNat, Int32.reduceToNatClampNeg, Int32.reduceLT, Int32.reduceLE, Int32.reduceAdd, Int32.reduceSub, Int32.reduceMul, Int32.reduceDiv, Int32.reduceToInt, Int.reduceLT, Int.reduceSub, Int.reduceToNat, not_false_eq_true, ne_eq, or_true, true_or, or_false, false_or, and_false, false_and, not_true_eq_false, reduceCtorEq, and_self, or_self, eq_self, bh_k_sfi, bh_k_sfr, bh_k_sai, bh_k_sar, bh_k_new, bh_fi_sfi, bh_fi_sfr, bh_fi_sai, bh_fi_sar, bh_fi_new, bh_fr_sfi, bh_fr_sfr, bh_fr_sai, bh_fr_sar, bh_fr_new, bh_ai_sfi, bh_ai_sfr, bh_ai_sai, bh_ai_sar, bh_ai_new, bh_ar_sfi, bh_ar_sfr, bh_ar_sai, bh_ar_sar, bh_ar_new, bh_nx_sfi, bh_nx_sfr, bh_nx_sai, bh_nx_sar, bh_nx_new, bh_nc_sfi, bh_nc_sfr, bh_nc_sai, bh_nc_sar, bh_nc_new, bh_ns_sfi, bh_ns_sfr, bh_ns_sai, bh_ns_sar, bh_ns_new, bh_k_new2, bh_fi_new2, bh_fr_new2, bh_ai_new2, bh_ar_new2, bh_nx_new2, bh_nc_new2, bh_ns_new2, Nat.lt_irrefl, Nat.le_refl, bq_le0, bq_neg, bq_nat, bq_lt, bq_le, bq_eq, bn_one, bn_dec])
theorem cv_d.shelve {F C : List Nat} (h : bi_H) (hF : 9 ∈ F) (h5 : 55 ∈ C) (h6 : 56 ∈ C) (c : Nat) (v w z : Int32) : cv_d A s F C h (bi_sfi (bi_sai (bi_sai h (A 55 s) c v) (A 56 s) c w) 7 9 (A 7 s) z) := ((cv_d.sai h h5 _ _).tr (cv_d.sai _ h6 _ _)).tr (cv_d.sfi _ hF _)
/-- its snapshots behind it -/
theorem cv_s.shelve {p : Nat} {W : ba_W} (R : cw_R A p W h) (hs : s < 8) {l : List (Nat × Nat)} (V : cv_s A s W l h) (hl : l.length < 16) (i j : Nat) (hj : j ≤ ba_n W) : cv_s A s W (l ++ [(i, j)]) (bi_sfi (bi_sai (bi_sai h (A 55 s) l.length (Int32.ofNat i)) (A 56 s) l.length (Int32.ofNat j)) 7 9 (A 7 s) (Int32.ofNat (l.length + 1))) := by
  have n1 := R.ne (c := 55) (i := s) (c' := 56) (i' := s) hs hs (Or.inl (by decide))
  have n2 := R.ne (c := 56) (i := s) (c' := 55) (i' := s) hs hs (Or.inl (by decide))
  obtain ⟨v1, v2, v3, v4⟩ := V
  refine ⟨?_, by simp; omega, fun k hk => ?_, fun k hk => ?_⟩
  · rw [bh_fi_sfi, if_pos ⟨rfl, rfl, rfl⟩]
    simp
  · rw [ba_snoc_getD]
    by_cases e : k < l.length
    · rw [if_pos e]
      exact v3 k e
    · rw [if_neg e, if_pos (by simp at hk; omega)]
      exact hj
  · rw [ba_snoc_getD, bh_ai_sfi, bh_ai_sai, bh_ai_sai, bh_ai_sai, bh_ai_sai]
    simp only [n1, n2]
    by_cases e : k < l.length
    · rw [if_pos e]
      have e2 : ¬ k = l.length := by omega
      simp only [e2, and_false, false_and, if_false, eq_self]
      exact v4 k e
    · have e2 : k = l.length := by simp at hk; omega
      rw [if_neg e]
      simp only [e2, and_self, false_and, if_true, if_false]
/-- Vault.shelve, where KEPT is NOW -/
theorem c_shelve (R : cs_R A h0 x y h S) (hW : ba_ok (bz_W S)) (hs : s < 8) (o : bs_ok (bz_W S) (bz_T S s)) (hkn : bs_kept (bz_T S s) = bs_now (bz_T S s)) (i : Nat) : ∃ h', (∀ K : Option bi_V → bi_H → Prop, bw_C bt_P 149 [.inr (.inl (A 7 s)), .inl (Int32.ofNat i)] h K ↔ K none h') ∧ cs_R A h0 x y h' (bz_sT S s (bs_ss (bz_T S s) (bs_sn (bz_T S s) ++ [(i, bs_now (bz_T S s))]))) := by
  have V := R.vs hs hW o
  have hl := o.2.2
  have V2 := V.shelve R.w hs (by omega) i (bs_now (bz_T S s)) o.1
  have n5 := R.w.ne (c := 54) (i := s) (c' := 55) (i' := s) hs hs (Or.inl (by decide))
  have n6 := R.w.ne (c := 54) (i := s) (c' := 56) (i' := s) hs hs (Or.inl (by decide))
  obtain ⟨v1, v2, v3, v4, v5, v6⟩ := R.v hs
  refine ⟨_, c_shelve0 R.w hs (show (bs_sn (bz_T S s)).length < 16 by omega) v3 (Int32.ofNat i), R.V hs (F := [9]) (C := [55, 56]) (cv_d.shelve h (by decide) (by decide) (by decide) _ _ _ _) (fun c hc => by simp at hc; omega) rfl rfl rfl ⟨?_, ?_, ?_, ?_, fun k hk => ?_, fun q hq => ?_⟩⟩
  · simp +decide only [bh_fi_sfi, bh_fi_sai]
    exact v1
  · simp +decide only [bh_fi_sfi, bh_fi_sai]
    exact v2
  · have := V2.1
    rw [v2.1]
    exact this
  · simp +decide only [bh_fi_sfi, bh_fi_sai, if_false]
    rw [v4, bs_need_snoc _ _ _ hkn]
  · have := V2.2.2.2 k hk
    rw [v2.1]
    exact this
  · rw [bh_ai_sfi, bh_ai_sai, bh_ai_sai]
    simp only [n5, n6, false_and, if_false]
    exact v6 q hq
/-- Vault.drop: its loop -/
theorem cl_drop {p : Nat} {W : ba_W} (hs : s < 8) {l : List (Nat × Nat)} {k : Nat} (hl : l.length ≤ 16) (hk : k < l.length) : ∀ (d i : Nat) (h : bi_H), cw_R A p W h → d + i = l.length → k < i → bi_fi h 7 9 (A 7 s) = Int32.ofNat l.length → (∀ j, j < l.length → bi_ai h (A 55 s) j = Int32.ofNat (if k ≤ j ∧ j + 1 < i then l.getD (j + 1) (0, 0) else l.getD j (0, 0)).1 ∧ bi_ai h (A 56 s) j = Int32.ofNat (if k ≤ j ∧ j + 1 < i then l.getD (j + 1) (0, 0) else l.getD j (0, 0)).2) → ∃ h', bw_r bt_P 126 7 [(0, .inr (.inl (A 7 s))), (3, .inl (Int32.ofNat i))] [] h (fun o g => o = .inl none ∧ g = h') ∧ cv_d A s [9] [55, 56] h h' ∧ bi_fi h' 7 9 (A 7 s) = Int32.ofNat (l.length - 1) ∧ ∀ j, j < l.length - 1 → bi_ai h' (A 55 s) j = Int32.ofNat ((l.eraseIdx k).getD j (0, 0)).1 ∧ bi_ai h' (A 56 s) j = Int32.ofNat ((l.eraseIdx k).getD j (0, 0)).2
  | 0, i, h, R, hd, hki, hc, hq => by
    have q1 : l.length < 60001 := by omega
    have e : i = l.length := by omega
    subst e
    refine ⟨bi_sfi h 7 9 (A 7 s) (Int32.ofNat (l.length - 1)), ?_, cv_d.sfi h (by decide) _, by rw [bh_fi_sfi, if_pos ⟨rfl, rfl, rfl⟩], fun j hj => ?_⟩
    · (refine bw_step rfl ?_; simp +decide only [bw_gi_s, bw_ga_s, bw_go_s, bw_w_i, bw_w_a, bw_w_l, bw_sum_n, bw_sum_c, bw_xs_n, bw_iconst, bw_bipush, bw_sipush, bw_ldc, bw_ldc_w, bw_anull, bw_iload0, bw_aload0, bw_istore0, bw_astore0, bw_iload1, bw_aload1, bw_istore1, bw_astore1, bw_iload2, bw_aload2, bw_istore2, bw_astore2, bw_iload3, bw_aload3, bw_istore3, bw_astore3, bw_iload, bw_aload, bw_istore, bw_astore, bw_iinc, bw_iadd, bw_isub, bw_imul, bw_iand, bw_ixor, bw_idiv, bw_irem, bw_i2l, bw_lcmp, bw_dupi, bw_dupa, bw_dup2ia, bw_dup2ii, bw_getf0, bw_getf2, bw_getf1, bw_putf0, bw_putf2, bw_putf1, bw_iaload, bw_baload, bw_laload, bw_aaload, bw_iastore, bw_bastore, bw_lastore, bw_aastore, bw_alen, bw_newa_int, bw_newa_boolean, bw_newa_long, bw_anewa, bw_multi, bw_new, bw_static, bw_virt, bw_obj, bw_t_nop, bw_t_goto, bw_t_eq_z, bw_t_eq_i, bw_t_ne_z, bw_t_ne_i, bw_t_lt_z, bw_t_lt_i, bw_t_ge_z, bw_t_ge_i, bw_t_gt_z, bw_t_gt_i, bw_t_le_z, bw_t_le_i, bw_t_null, bw_t_nonnull, bw_t_switch, bw_t_ireturn0, bw_t_ireturn1, bw_t_areturn, bw_t_return, bw_t_athrow, bw_t_try, List.lookup_cons, List.lookup_nil, bi_st, List.filter_cons, List.filter_nil, List.take_succ_cons, List.take_zero, List.take_nil, List.drop_succ_cons, List.drop_zero, List.reverse_cons, List.reverse_nil, List.nil_append, List.cons_append, Option.toList_some, Option.toList_none, List.length_cons, List.length_nil, bi_loc, List.zipIdx_cons, List.zipIdx_nil, List.map_cons, List.map_nil, List.getD_cons_zero, List.getD_cons_succ, Nat.zero_add, Bool.not_true, Bool.not_false, Bool.false_eq_true, if_true, if_false, ite_true, ite_false, ↓reduceIte, true_and, and_true, Bool.not_eq_true, beq_self_eq_true, Nat.reduceBEq, Nat.reduceEqDiff, Nat.reduceAdd, Nat.reduceLeDiff, Nat.reduceLT, Nat.reduceSub, Nat.reduceMul, Int32.reduceOfInt, Int32.reduceOfNat, Int32.reduceToNatClampNeg, Int32.reduceLT, Int32.reduceLE, Int32.reduceAdd, Int32.reduceSub, Int32.reduceMul, Int32.reduceDiv, Int32.reduceToInt, Int.reduceLT, Int.reduceSub, Int.reduceToNat, not_false_eq_true, ne_eq, or_true, true_or, or_false, false_or, and_false, false_and, not_true_eq_false, reduceCtorEq, and_self, or_self, eq_self, bh_k_sfi, bh_k_sfr, bh_k_sai, bh_k_sar, bh_k_new, bh_fi_sfi, bh_fi_sfr, bh_fi_sai, bh_fi_sar, bh_fi_new, bh_fr_sfi, bh_fr_sfr, bh_fr_sai, bh_fr_sar, bh_fr_new, bh_ai_sfi, bh_ai_sfr, bh_ai_sai, bh_ai_sar, bh_ai_new, bh_ar_sfi, bh_ar_sfr, bh_ar_sai, bh_ar_sar, bh_ar_new, bh_nx_sfi, bh_nx_sfr, bh_nx_sai, bh_nx_sar, bh_nx_new, bh_nc_sfi, bh_nc_sfr, bh_nc_sai, bh_nc_sar, bh_nc_new, bh_ns_sfi, bh_ns_sfr, bh_ns_sai, bh_ns_sar, bh_ns_new, bh_k_new2, bh_fi_new2, bh_fr_new2, bh_ai_new2, bh_ar_new2, bh_nx_new2, bh_nc_new2, bh_ns_new2, Nat.lt_irrefl, Nat.le_refl, bq_le0, bq_neg, bq_nat, bq_lt, bq_le, bq_eq, bn_one, bn_dec, R.k7 hs, hc, q1])
      (refine bw_step rfl ?_; simp +decide only [bw_gi_s, bw_ga_s, bw_go_s, bw_w_i, bw_w_a, bw_w_l, bw_sum_n, bw_sum_c, bw_xs_n, bw_iconst, bw_bipush, bw_sipush, bw_ldc, bw_ldc_w, bw_anull, bw_iload0, bw_aload0, bw_istore0, bw_astore0, bw_iload1, bw_aload1, bw_istore1, bw_astore1, bw_iload2, bw_aload2, bw_istore2, bw_astore2, bw_iload3, bw_aload3, bw_istore3, bw_astore3, bw_iload, bw_aload, bw_istore, bw_astore, bw_iinc, bw_iadd, bw_isub, bw_imul, bw_iand, bw_ixor, bw_idiv, bw_irem, bw_i2l, bw_lcmp, bw_dupi, bw_dupa, bw_dup2ia, bw_dup2ii, bw_getf0, bw_getf2, bw_getf1, bw_putf0, bw_putf2, bw_putf1, bw_iaload, bw_baload, bw_laload, bw_aaload, bw_iastore, bw_bastore, bw_lastore, bw_aastore, bw_alen, bw_newa_int, bw_newa_boolean, bw_newa_long, bw_anewa, bw_multi, bw_new, bw_static, bw_virt, bw_obj, bw_t_nop, bw_t_goto, bw_t_eq_z, bw_t_eq_i, bw_t_ne_z, bw_t_ne_i, bw_t_lt_z, bw_t_lt_i, bw_t_ge_z, bw_t_ge_i, bw_t_gt_z, bw_t_gt_i, bw_t_le_z, bw_t_le_i, bw_t_null, bw_t_nonnull, bw_t_switch, bw_t_ireturn0, bw_t_ireturn1, bw_t_areturn, bw_t_return, bw_t_athrow, bw_t_try, List.lookup_cons, List.lookup_nil, bi_st, List.filter_cons, List.filter_nil, List.take_succ_cons, List.take_zero, List.take_nil, List.drop_succ_cons, List.drop_zero, List.reverse_cons, List.reverse_nil, List.nil_append, List.cons_append, Option.toList_some, Option.toList_none, List.length_cons, List.length_nil, bi_loc, List.zipIdx_cons, List.zipIdx_nil, List.map_cons, List.map_nil, List.getD_cons_zero, List.getD_cons_succ, Nat.zero_add, Bool.not_true, Bool.not_false, Bool.false_eq_true, if_true, if_false, ite_true, ite_false, ↓reduceIte, true_and, and_true, Bool.not_eq_true, beq_self_eq_true, Nat.reduceBEq, Nat.reduceEqDiff, Nat.reduceAdd, Nat.reduceLeDiff, Nat.reduceLT, Nat.reduceSub, Nat.reduceMul, Int32.reduceOfInt, Int32.reduceOfNat, Int32.reduceToNatClampNeg, Int32.reduceLT, Int32.reduceLE, Int32.reduceAdd, Int32.reduceSub, Int32.reduceMul, Int32.reduceDiv, Int32.reduceToInt, Int.reduceLT, Int.reduceSub, Int.reduceToNat, not_false_eq_true, ne_eq, or_true, true_or, or_false, false_or, and_false, false_and, not_true_eq_false, reduceCtorEq, and_self, or_self, eq_self, bh_k_sfi, bh_k_sfr, bh_k_sai, bh_k_sar, bh_k_new, bh_fi_sfi, bh_fi_sfr, bh_fi_sai, bh_fi_sar, bh_fi_new, bh_fr_sfi, bh_fr_sfr, bh_fr_sai, bh_fr_sar, bh_fr_new, bh_ai_sfi, bh_ai_sfr, bh_ai_sai, bh_ai_sar, bh_ai_new, bh_ar_sfi, bh_ar_sfr, bh_ar_sai, bh_ar_sar, bh_ar_new, bh_nx_sfi, bh_nx_sfr, bh_nx_sai, bh_nx_sar, bh_nx_new, bh_nc_sfi, bh_nc_sfr, bh_nc_sai, bh_nc_sar, bh_nc_new, bh_ns_sfi, bh_ns_sfr, bh_ns_sai, bh_ns_sar, bh_ns_new, bh_k_new2, bh_fi_new2, bh_fr_new2, bh_ai_new2, bh_ar_new2, bh_nx_new2, bh_nc_new2, bh_ns_new2, Nat.lt_irrefl, Nat.le_refl, bq_le0, bq_neg, bq_nat, bq_lt, bq_le, bq_eq, bn_one, bn_dec, R.k7 hs, hc, bq_sub1 (show 0 < l.length by omega)])
    · rw [bh_ai_sfi, ba_erase_getD, (hq j (by omega)).1, (hq j (by omega)).2]
      by_cases e : j < k
      · rw [if_pos e, if_neg (by omega)]
        exact ⟨rfl, rfl⟩
      · rw [if_neg e, if_pos (by omega)]
        exact ⟨rfl, rfl⟩
  | d + 1, i, h, R, hd, hki, hc, hq => by
    have q1 : l.length < 60001 := by omega
    have q2 : i < 60001 := by omega
    have q3 : i - 1 < 60001 := by omega
    have q4 : i < 16 := by omega
    have q5 : i - 1 < 16 := by omega
    have hi : i < l.length := by omega
    have n1 := R.ne (c := 55) (i := s) (c' := 56) (i' := s) hs hs (Or.inl (by decide))
    have n2 := R.ne (c := 56) (i := s) (c' := 55) (i' := s) hs hs (Or.inl (by decide))
    have a1 := hq i hi
    rw [if_neg (by omega)] at a1
    have D : cv_d A s [9] [55, 56] h (bi_sai (bi_sai h (A 55 s) (i - 1) (Int32.ofNat (l.getD i (0, 0)).1)) (A 56 s) (i - 1) (Int32.ofNat (l.getD i (0, 0)).2)) := (cv_d.sai h (by decide) _ _).tr (cv_d.sai _ (by decide) _ _)
    have R2 := D.w (fun c hc => by simp at hc; omega) (fun c hc => by simp at hc; rcases hc with rfl | rfl <;> exact hs) R
    obtain ⟨h', r, D', e1, e2⟩ := cl_drop hs hl hk d (i + 1) _ R2 (by omega) (by omega) hc (fun j hj => by
      rw [bh_ai_sai, bh_ai_sai, bh_ai_sai, bh_ai_sai]
      simp only [n1, n2]
      by_cases e : j = i - 1
      · have e3 : k ≤ j ∧ j + 1 < i + 1 := by omega
        have e4 : j + 1 = i := by omega
        simp only [e, and_self, false_and, if_true, if_false]
        rw [← e, if_pos e3, e4]
        exact ⟨rfl, rfl⟩
      · simp only [e, and_false, false_and, if_false]
        have h1 := hq j hj
        by_cases e3 : k ≤ j ∧ j + 1 < i
        · rw [if_pos e3] at h1
          rw [if_pos (by omega)]
          exact h1
        · rw [if_neg e3] at h1
          rw [if_neg (by omega)]
          exact h1)
    refine ⟨h', ?_, D.tr D', e1, e2⟩
    (refine bw_step rfl ?_; simp +decide only [bw_gi_s, bw_ga_s, bw_go_s, bw_w_i, bw_w_a, bw_w_l, bw_sum_n, bw_sum_c, bw_xs_n, bw_iconst, bw_bipush, bw_sipush, bw_ldc, bw_ldc_w, bw_anull, bw_iload0, bw_aload0, bw_istore0, bw_astore0, bw_iload1, bw_aload1, bw_istore1, bw_astore1, bw_iload2, bw_aload2, bw_istore2, bw_astore2, bw_iload3, bw_aload3, bw_istore3, bw_astore3, bw_iload, bw_aload, bw_istore, bw_astore, bw_iinc, bw_iadd, bw_isub, bw_imul, bw_iand, bw_ixor, bw_idiv, bw_irem, bw_i2l, bw_lcmp, bw_dupi, bw_dupa, bw_dup2ia, bw_dup2ii, bw_getf0, bw_getf2, bw_getf1, bw_putf0, bw_putf2, bw_putf1, bw_iaload, bw_baload, bw_laload, bw_aaload, bw_iastore, bw_bastore, bw_lastore, bw_aastore, bw_alen, bw_newa_int, bw_newa_boolean, bw_newa_long, bw_anewa, bw_multi, bw_new, bw_static, bw_virt, bw_obj, bw_t_nop, bw_t_goto, bw_t_eq_z, bw_t_eq_i, bw_t_ne_z, bw_t_ne_i, bw_t_lt_z, bw_t_lt_i, bw_t_ge_z, bw_t_ge_i, bw_t_gt_z, bw_t_gt_i, bw_t_le_z, bw_t_le_i, bw_t_null, bw_t_nonnull, bw_t_switch, bw_t_ireturn0, bw_t_ireturn1, bw_t_areturn, bw_t_return, bw_t_athrow, bw_t_try, List.lookup_cons, List.lookup_nil, bi_st, List.filter_cons, List.filter_nil, List.take_succ_cons, List.take_zero, List.take_nil, List.drop_succ_cons, List.drop_zero, List.reverse_cons, List.reverse_nil, List.nil_append, List.cons_append, Option.toList_some, Option.toList_none, List.length_cons, List.length_nil, bi_loc, List.zipIdx_cons, List.zipIdx_nil, List.map_cons, List.map_nil, List.getD_cons_zero, List.getD_cons_succ, Nat.zero_add, Bool.not_true, Bool.not_false, Bool.false_eq_true, if_true, if_false, ite_true, ite_false, ↓reduceIte, true_and, and_true, Bool.not_eq_true, beq_self_eq_true, Nat.reduceBEq, Nat.reduceEqDiff, Nat.reduceAdd, Nat.reduceLeDiff, Nat.reduceLT, Nat.reduceSub, Nat.reduceMul, Int32.reduceOfInt, Int32.reduceOfNat, Int32.reduceToNatClampNeg, Int32.reduceLT, Int32.reduceLE, Int32.reduceAdd, Int32.reduceSub, Int32.reduceMul, Int32.reduceDiv, Int32.reduceToInt, Int.reduceLT, Int.reduceSub, Int.reduceToNat, not_false_eq_true, ne_eq, or_true, true_or, or_false, false_or, and_false, false_and, not_true_eq_false, reduceCtorEq, and_self, or_self, eq_self, bh_k_sfi, bh_k_sfr, bh_k_sai, bh_k_sar, bh_k_new, bh_fi_sfi, bh_fi_sfr, bh_fi_sai, bh_fi_sar, bh_fi_new, bh_fr_sfi, bh_fr_sfr, bh_fr_sai, bh_fr_sar, bh_fr_new, bh_ai_sfi, bh_ai_sfr, bh_ai_sai, bh_ai_sar, bh_ai_new, bh_ar_sfi, bh_ar_sfr, bh_ar_sai, bh_ar_sar, bh_ar_new, bh_nx_sfi, bh_nx_sfr, bh_nx_sai, bh_nx_sar, bh_nx_new, bh_nc_sfi, bh_nc_sfr, bh_nc_sai, bh_nc_sar, bh_nc_new, bh_ns_sfi, bh_ns_sfr, bh_ns_sai, bh_ns_sar, bh_ns_new, bh_k_new2, bh_fi_new2, bh_fr_new2, bh_ai_new2, bh_ar_new2, bh_nx_new2, bh_nc_new2, bh_ns_new2, Nat.lt_irrefl, Nat.le_refl, bq_le0, bq_neg, bq_nat, bq_lt, bq_le, bq_eq, bn_one, bn_dec, R.k7 hs, hc, q1, q2, Nat.not_le.mpr hi])
    (refine bw_step rfl ?_; simp +decide only [bw_gi_s, bw_ga_s, bw_go_s, bw_w_i, bw_w_a, bw_w_l, bw_sum_n, bw_sum_c, bw_xs_n, bw_iconst, bw_bipush, bw_sipush, bw_ldc, bw_ldc_w, bw_anull, bw_iload0, bw_aload0, bw_istore0, bw_astore0, bw_iload1, bw_aload1, bw_istore1, bw_astore1, bw_iload2, bw_aload2, bw_istore2, bw_astore2, bw_iload3, bw_aload3, bw_istore3, bw_astore3, bw_iload, bw_aload, bw_istore, bw_astore, bw_iinc, bw_iadd, bw_isub, bw_imul, bw_iand, bw_ixor, bw_idiv, bw_irem, bw_i2l, bw_lcmp, bw_dupi, bw_dupa, bw_dup2ia, bw_dup2ii, bw_getf0, bw_getf2, bw_getf1, bw_putf0, bw_putf2, bw_putf1, bw_iaload, bw_baload, bw_laload, bw_aaload, bw_iastore, bw_bastore, bw_lastore, bw_aastore, bw_alen, bw_newa_int, bw_newa_boolean, bw_newa_long, bw_anewa, bw_multi, bw_new, bw_static, bw_virt, bw_obj, bw_t_nop, bw_t_goto, bw_t_eq_z, bw_t_eq_i, bw_t_ne_z, bw_t_ne_i, bw_t_lt_z, bw_t_lt_i, bw_t_ge_z, bw_t_ge_i, bw_t_gt_z, bw_t_gt_i, bw_t_le_z, bw_t_le_i, bw_t_null, bw_t_nonnull, bw_t_switch, bw_t_ireturn0, bw_t_ireturn1, bw_t_areturn, bw_t_return, bw_t_athrow, bw_t_try, List.lookup_cons, List.lookup_nil, bi_st, List.filter_cons, List.filter_nil, List.take_succ_cons, List.take_zero, List.take_nil, List.drop_succ_cons, List.drop_zero, List.reverse_cons, List.reverse_nil, List.nil_append, List.cons_append, Option.toList_some, Option.toList_none, List.length_cons, List.length_nil, bi_loc, List.zipIdx_cons, List.zipIdx_nil, List.map_cons, List.map_nil, List.getD_cons_zero, List.getD_cons_succ, Nat.zero_add, Bool.not_true, Bool.not_false, Bool.false_eq_true, if_true, if_false, ite_true, ite_false, ↓reduceIte, true_and, and_true, Bool.not_eq_true, beq_self_eq_true, Nat.reduceBEq, Nat.reduceEqDiff, Nat.reduceAdd, Nat.reduceLeDiff, Nat.reduceLT, Nat.reduceSub, Nat.reduceMul, Int32.reduceOfInt, Int32.reduceOfNat, Int32.reduceToNatClampNeg, Int32.reduceLT, Int32.reduceLE, Int32.reduceAdd, Int32.reduceSub, Int32.reduceMul, Int32.reduceDiv, Int32.reduceToInt, Int.reduceLT, Int.reduceSub, Int.reduceToNat, not_false_eq_true, ne_eq, or_true, true_or, or_false, false_or, and_false, false_and, not_true_eq_false, reduceCtorEq, and_self, or_self, eq_self, bh_k_sfi, bh_k_sfr, bh_k_sai, bh_k_sar, bh_k_new, bh_fi_sfi, bh_fi_sfr, bh_fi_sai, bh_fi_sar, bh_fi_new, bh_fr_sfi, bh_fr_sfr, bh_fr_sai, bh_fr_sar, bh_fr_new, bh_ai_sfi, bh_ai_sfr, bh_ai_sai, bh_ai_sar, bh_ai_new, bh_ar_sfi, bh_ar_sfr, bh_ar_sai, bh_ar_sar, bh_ar_new, bh_nx_sfi, bh_nx_sfr, bh_nx_sai, bh_nx_sar, bh_nx_new, bh_nc_sfi, bh_nc_sfr, bh_nc_sai, bh_nc_sar, bh_nc_new, bh_ns_sfi, bh_ns_sfr, bh_ns_sai, bh_ns_sar, bh_ns_new, bh_k_new2, bh_fi_new2, bh_fr_new2, bh_ai_new2, bh_ar_new2, bh_nx_new2, bh_nc_new2, bh_ns_new2, Nat.lt_irrefl, Nat.le_refl, bq_le0, bq_neg, bq_nat, bq_lt, bq_le, bq_eq, bn_one, bn_dec, R.k7 hs, R.r77 hs, R.r78 hs, R.k55 hs, R.k56 hs, q2, q3, q4, q5, bq_sub1 (show 0 < i by omega), a1.1, a1.2, n1, n2])
    (refine bw_sub2 _ ?_ (r); exact ⟨rfl, rfl, trivial⟩)
end CQ
