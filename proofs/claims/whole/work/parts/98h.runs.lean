/-! a new object's state holds what every state holds; the law's run -/
theorem bg_ini (s : Nat) : bs_ini s (bg_T s) := by
  refine ⟨fun k h1 h2 => ?_, fun _ _ => rfl, rfl⟩
  show (if k = 7 then (1 : Int32) else if k = 6 then (if s < 4 then 1 else 0) else if k = 0 then Int32.ofNat s else 0) = _
  by_cases c6 : k = 6
  · subst c6
    rfl
  · rw [if_neg c6, if_neg c6]
    by_cases c7 : k = 7
    · rw [if_pos c7, if_pos c7]
    · rw [if_neg c7, if_neg c7, if_neg (by omega)]
theorem bg_ok (p k w : Int32) : bz_ok (bg_S p k w) ∧ bz_pool (bg_S p k w) ≤ 8192 := by
  obtain ⟨v, v1, v2, v3⟩ := bx_cl_nat (lo := 16) (hi := 8192) p (by decide) (by decide)
  obtain ⟨u, u1, u2, u3⟩ := bx_cl_nat (lo := 2) (hi := 8) k (by decide) (by decide)
  obtain ⟨t, t1, t2, t3⟩ := bx_cl_nat (lo := 1) (hi := 8) w (by decide) (by decide)
  have e0 : bz_G (bg_S p k w) 0 = Int32.ofNat v := v3
  have e1 : bz_G (bg_S p k w) 1 = Int32.ofNat u := u3
  have e2 : bz_G (bg_S p k w) 2 = Int32.ofNat t := t3
  have p0 : bz_pool (bg_S p k w) = v := by
    unfold bz_pool
    rw [e0]
    exact bn_nat (by omega)
  have p1 : bz_keep (bg_S p k w) = u := by
    unfold bz_keep
    rw [e1]
    exact bn_nat (by omega)
  have p2 : bz_win (bg_S p k w) = t := by
    unfold bz_win
    rw [e2]
    exact bn_nat (by omega)
  refine ⟨⟨bg_W_ok, fun s hs => ⟨⟨Nat.le_refl _, ⟨ba_anc_rf _ _, ba_anc_rf _ _, ba_anc_rf _ _, trivial⟩, Nat.zero_le _⟩, rfl⟩, ⟨?_, ?_, ?_⟩, ⟨?_, ?_⟩, ⟨?_, ?_, ?_⟩, ⟨rfl, Nat.zero_le _⟩, ⟨rfl, Nat.zero_le _⟩, fun i hi => ⟨rfl, Or.inr rfl⟩, fun g hg => ⟨Nat.zero_le _, Nat.zero_le _⟩, fun g hg => absurd hg List.not_mem_nil⟩, by omega⟩
  · rw [p1]; exact e1
  · omega
  · omega
  · rw [p0]; exact e0
  · omega
  · rw [p2]; exact e2
  · omega
  · omega
theorem bg_V (p k w : Int32) : bz_V (bg_S p k w) 1 0 := by
  have ep : ∀ s, bs_ep (bg_T s) = 1 := fun s => bl_n1
  have tk : ∀ s, bs_tk (bg_T s) = 0 := fun s => bl_n0
  have ro : ∀ s, bs_c (bg_T s) 6 = if s < 4 then 1 else 0 := fun s => rfl
  refine ⟨(bg_ok p k w).1, fun j h1 h2 => absurd h1 (by have h3 : j ≤ 0 := h2; omega), fun g hg => absurd hg (Nat.not_lt_zero g), fun g hg => ⟨List.Pairwise.nil, Nat.le_refl _, fun q hq => absurd hq List.not_mem_nil⟩, fun s hs => ?_, fun i hi => ?_, fun m hm => absurd hm List.not_mem_nil, fun s hs _ => bg_ini s, by decide, by decide⟩
  · show bv_T bg_W [] _ (bs_ep (bg_T ((s + 4) % 8))) 1 s (bg_T s)
    refine ⟨⟨fun q hq => absurd hq List.not_mem_nil, List.Pairwise.nil, Nat.zero_le _⟩, ⟨⟨?_, ?_, ?_⟩, ⟨?_, ?_, fun _ => ?_⟩, fun q hq => absurd hq List.not_mem_nil⟩, ⟨?_, fun _ => rfl, fun _ q hq => absurd hq List.not_mem_nil, fun hsrc => ⟨?_, fun w => absurd rfl w⟩⟩, Or.inl rfl, fun _ => ⟨Or.inl rfl, Or.inl rfl, Or.inl rfl⟩, ⟨Or.inl rfl, fun w => absurd rfl w, fun w => absurd w (show ¬ (0 : Int32) = 2 by decide)⟩, Or.inl (fun k _ => rfl), ⟨Nat.zero_le _, fun k hk => absurd hk List.not_mem_nil⟩, ?_, fun w => absurd rfl w⟩
    · rw [ep]; rfl
    · rw [tk]; rfl
    · rw [tk]; decide
    · exact Nat.le_of_eq (ep s).symm
    · exact Nat.le_of_eq (ep s)
    · exact Nat.le_of_eq ((ep s).trans (ep _).symm)
    · rw [ro]
      by_cases c : s < 4
      · rw [if_pos c]; exact Or.inr (Or.inl rfl)
      · rw [if_neg c]; exact Or.inl rfl
    · rw [ep]
      unfold bs_src at hsrc
      rw [ro] at hsrc
      by_cases c : s < 4
      · show 0 = s / 4
        omega
      · rw [if_neg c] at hsrc
        exact absurd hsrc (by decide)
    · show 0 - 0 ≤ 64
      decide
  · show bs_use bg_W (bg_T (4 * i)) + bs_use bg_W (bg_T (4 * i + 1)) + bs_use bg_W (bg_T (4 * i + 2)) + bs_use bg_W (bg_T (4 * i + 3)) ≤ _
    rw [bs_ini_use bg_W_ok (bg_ini _), bs_ini_use bg_W_ok (bg_ini _), bs_ini_use bg_W_ok (bg_ini _), bs_ini_use bg_W_ok (bg_ini _)]
    exact Nat.zero_le _
theorem bg_ph (p k w : Int32) : bv_ph (bg_S p k w) = 0 := rfl
/-- a script's number -/
def bx_cell (L : Nat) (xs : Nat → Int32) (k : Nat) : Int32 := if L ≤ k then 0 else xs k
theorem c_cell (a L : Nat) (xs : Nat → Int32) (k : Nat) (h : bi_H) (hk : bi_k h a = (4, L)) (hx : ∀ j, bi_ai h a j = xs j) (hL : L < 2147483648) (hk2 : k < 2147483648) (K : Option bi_V → bi_H → Prop) : bw_C bt_P 215 [.inr (.inl a), .inl (Int32.ofNat k)] h K ↔ K (some (.inl (bx_cell L xs k))) h := by
  refine bw_C_iff ?_ K
  refine bw_step rfl ?_
  by_cases hc : L ≤ k
  · have hv : bx_cell L xs k = 0 := if_pos hc
    simp +decide only [bw_gi_s, bw_ga_s, bw_go_s, bw_w_i, bw_w_a, bw_w_l, bw_sum_n, bw_sum_c, bw_xs_n, bw_iconst, bw_bipush, bw_sipush, bw_ldc, bw_ldc_w, bw_anull, bw_iload0, bw_aload0, bw_istore0, bw_astore0, bw_iload1, bw_aload1, bw_istore1, bw_astore1, bw_iload2, bw_aload2, bw_istore2, bw_astore2, bw_iload3, bw_aload3, bw_istore3, bw_astore3, bw_iload, bw_aload, bw_istore, bw_astore, bw_iinc, bw_iadd, bw_isub, bw_imul, bw_iand, bw_ixor, bw_idiv, bw_irem, bw_i2l, bw_lcmp, bw_dupi, bw_dupa, bw_dup2ia, bw_dup2ii, bw_getf0, bw_getf2, bw_getf1, bw_putf0, bw_putf2, bw_putf1, bw_iaload, bw_baload, bw_laload, bw_aaload, bw_iastore, bw_bastore, bw_lastore, bw_aastore, bw_alen, bw_newa_int, bw_newa_boolean, bw_newa_long, bw_anewa, bw_multi, bw_new, bw_static, bw_virt, bw_obj, bw_t_nop, bw_t_goto, bw_t_eq_z, bw_t_eq_i, bw_t_ne_z, bw_t_ne_i, bw_t_lt_z, bw_t_lt_i, bw_t_ge_z, bw_t_ge_i, bw_t_gt_z, bw_t_gt_i, bw_t_le_z, bw_t_le_i, bw_t_null, bw_t_nonnull, bw_t_switch, bw_t_ireturn0, bw_t_ireturn1, bw_t_areturn, bw_t_return, bw_t_athrow, bw_t_try, List.lookup_cons, List.lookup_nil, bi_st, List.filter_cons, List.filter_nil, List.take_succ_cons, List.take_zero, List.take_nil, List.drop_succ_cons, List.drop_zero, List.reverse_cons, List.reverse_nil, List.nil_append, List.cons_append, Option.toList_some, Option.toList_none, List.length_cons, List.length_nil, bi_loc, List.zipIdx_cons, List.zipIdx_nil, List.map_cons, List.map_nil, List.getD_cons_zero, List.getD_cons_succ, Nat.zero_add, Bool.not_true, Bool.not_false, Bool.false_eq_true, if_true, if_false, ite_true, ite_false, ↓reduceIte, true_and, and_true, Bool.not_eq_true, beq_self_eq_true, Nat.reduceBEq, Nat.reduceEqDiff, Nat.reduceAdd, Nat.reduceLeDiff, Nat.reduceLT, Nat.reduceSub, Nat.reduceMul, Int32.reduceOfInt, Int32.reduceOfNat, Int32.reduceToNatClampNeg, Int32.reduceLT, Int32.reduceLE, Int32.reduceAdd, Int32.reduceSub, Int32.reduceMul, Int32.reduceDiv, Int32.reduceToInt, Int.reduceLT, Int.reduceSub, Int.reduceToNat, not_false_eq_true, ne_eq, or_true, true_or, or_false, false_or, and_false, false_and, not_true_eq_false, reduceCtorEq, and_self, or_self, eq_self, hk, bn_le hL hk2, hc]
    refine bw_step rfl ?_
    simp +decide only [bw_gi_s, bw_ga_s, bw_go_s, bw_w_i, bw_w_a, bw_w_l, bw_sum_n, bw_sum_c, bw_xs_n, bw_iconst, bw_bipush, bw_sipush, bw_ldc, bw_ldc_w, bw_anull, bw_iload0, bw_aload0, bw_istore0, bw_astore0, bw_iload1, bw_aload1, bw_istore1, bw_astore1, bw_iload2, bw_aload2, bw_istore2, bw_astore2, bw_iload3, bw_aload3, bw_istore3, bw_astore3, bw_iload, bw_aload, bw_istore, bw_astore, bw_iinc, bw_iadd, bw_isub, bw_imul, bw_iand, bw_ixor, bw_idiv, bw_irem, bw_i2l, bw_lcmp, bw_dupi, bw_dupa, bw_dup2ia, bw_dup2ii, bw_getf0, bw_getf2, bw_getf1, bw_putf0, bw_putf2, bw_putf1, bw_iaload, bw_baload, bw_laload, bw_aaload, bw_iastore, bw_bastore, bw_lastore, bw_aastore, bw_alen, bw_newa_int, bw_newa_boolean, bw_newa_long, bw_anewa, bw_multi, bw_new, bw_static, bw_virt, bw_obj, bw_t_nop, bw_t_goto, bw_t_eq_z, bw_t_eq_i, bw_t_ne_z, bw_t_ne_i, bw_t_lt_z, bw_t_lt_i, bw_t_ge_z, bw_t_ge_i, bw_t_gt_z, bw_t_gt_i, bw_t_le_z, bw_t_le_i, bw_t_null, bw_t_nonnull, bw_t_switch, bw_t_ireturn0, bw_t_ireturn1, bw_t_areturn, bw_t_return, bw_t_athrow, bw_t_try, List.lookup_cons, List.lookup_nil, bi_st, List.filter_cons, List.filter_nil, List.take_succ_cons, List.take_zero, List.take_nil, List.drop_succ_cons, List.drop_zero, List.reverse_cons, List.reverse_nil, List.nil_append, List.cons_append, Option.toList_some, Option.toList_none, List.length_cons, List.length_nil, bi_loc, List.zipIdx_cons, List.zipIdx_nil, List.map_cons, List.map_nil, List.getD_cons_zero, List.getD_cons_succ, Nat.zero_add, Bool.not_true, Bool.not_false, Bool.false_eq_true, if_true, if_false, ite_true, ite_false, ↓reduceIte, true_and, and_true, Bool.not_eq_true, beq_self_eq_true, Nat.reduceBEq, Nat.reduceEqDiff, Nat.reduceAdd, Nat.reduceLeDiff, Nat.reduceLT, Nat.reduceSub, Nat.reduceMul, Int32.reduceOfInt, Int32.reduceOfNat, Int32.reduceToNatClampNeg, Int32.reduceLT, Int32.reduceLE, Int32.reduceAdd, Int32.reduceSub, Int32.reduceMul, Int32.reduceDiv, Int32.reduceToInt, Int.reduceLT, Int.reduceSub, Int.reduceToNat, not_false_eq_true, ne_eq, or_true, true_or, or_false, false_or, and_false, false_and, not_true_eq_false, reduceCtorEq, and_self, or_self, eq_self, bh_k_sfi, bh_k_sfr, bh_k_sai, bh_k_sar, bh_k_new, bh_fi_sfi, bh_fi_sfr, bh_fi_sai, bh_fi_sar, bh_fi_new, bh_fr_sfi, bh_fr_sfr, bh_fr_sai, bh_fr_sar, bh_fr_new, bh_ai_sfi, bh_ai_sfr, bh_ai_sai, bh_ai_sar, bh_ai_new, bh_ar_sfi, bh_ar_sfr, bh_ar_sai, bh_ar_sar, bh_ar_new, bh_nx_sfi, bh_nx_sfr, bh_nx_sai, bh_nx_sar, bh_nx_new, bh_nc_sfi, bh_nc_sfr, bh_nc_sai, bh_nc_sar, bh_nc_new, bh_ns_sfi, bh_ns_sfr, bh_ns_sai, bh_ns_sar, bh_ns_new, bh_k_new2, bh_fi_new2, bh_fr_new2, bh_ai_new2, bh_ar_new2, bh_nx_new2, bh_nc_new2, bh_ns_new2, bh_ltS, bh_neS, bh_ne0, bh_e1, bh_e2, bh_e3, bh_l1, bh_l2, bh_l3, bh_m1, bh_m2, bh_m3, bh_leS, bh_le0, bh_gtS, bh_gt0, bl_im8, bl_im6, bl_im5, bl_im4, bl_im3, bl_im2, bl_im1, bl_i0, bl_i1, bl_i2, bl_i3, bl_i4, bl_i5, bl_i6, bl_i7, bl_i8, bl_i9, bl_i10, bl_i11, bl_i16, bl_i20, bl_i31, bl_i40, bl_i60, bl_i61, bl_i64, bl_i128, bl_i256, bl_i512, bl_i1000, bl_i1024, bl_i2048, bl_i4095, bl_i4096, bl_i8192, bl_i9000, bl_d32768, bl_d60000, bl_d60001, bl_d60002, bl_d100000, bl_d2147483647, bl_n0, bl_n1, bl_n2, bl_n3, bl_n4, bl_n5, bl_n6, bl_n7, bl_n8, bl_n9, bl_n10, bl_n11, bl_n16, bl_n20, bl_n31, bl_n40, bl_n60, bl_n61, bl_n64, bl_n128, bl_n256, bl_n512, bl_n1000, bl_n1024, bl_n2048, bl_n4095, bl_n4096, bl_n8192, bl_n9000, bl_n32768, bl_n60000, bl_n60001, bl_n60002, bl_n100000, bl_n2147483647, bl_p0, bl_p1, bl_p2, bl_p3, bl_p4, bl_p5, bl_p6, bl_p7, bl_p8, bl_p9, bl_p10, bl_p11, bl_p16, bl_p20, bl_p31, bl_p40, bl_p60, bl_p61, bl_p64, bl_p128, bl_p256, bl_p512, bl_p1000, bl_p1024, bl_p2048, bl_p4095, bl_p4096, bl_p8192, bl_p9000, bl_p32768, bl_p60000, bl_p60001, bl_p60002, bl_p100000, bl_p2147483647, Nat.add_assoc, Nat.lt_irrefl, Nat.le_refl]
    refine bw_step rfl ?_
    simp +decide only [bw_gi_s, bw_ga_s, bw_go_s, bw_w_i, bw_w_a, bw_w_l, bw_sum_n, bw_sum_c, bw_xs_n, bw_iconst, bw_bipush, bw_sipush, bw_ldc, bw_ldc_w, bw_anull, bw_iload0, bw_aload0, bw_istore0, bw_astore0, bw_iload1, bw_aload1, bw_istore1, bw_astore1, bw_iload2, bw_aload2, bw_istore2, bw_astore2, bw_iload3, bw_aload3, bw_istore3, bw_astore3, bw_iload, bw_aload, bw_istore, bw_astore, bw_iinc, bw_iadd, bw_isub, bw_imul, bw_iand, bw_ixor, bw_idiv, bw_irem, bw_i2l, bw_lcmp, bw_dupi, bw_dupa, bw_dup2ia, bw_dup2ii, bw_getf0, bw_getf2, bw_getf1, bw_putf0, bw_putf2, bw_putf1, bw_iaload, bw_baload, bw_laload, bw_aaload, bw_iastore, bw_bastore, bw_lastore, bw_aastore, bw_alen, bw_newa_int, bw_newa_boolean, bw_newa_long, bw_anewa, bw_multi, bw_new, bw_static, bw_virt, bw_obj, bw_t_nop, bw_t_goto, bw_t_eq_z, bw_t_eq_i, bw_t_ne_z, bw_t_ne_i, bw_t_lt_z, bw_t_lt_i, bw_t_ge_z, bw_t_ge_i, bw_t_gt_z, bw_t_gt_i, bw_t_le_z, bw_t_le_i, bw_t_null, bw_t_nonnull, bw_t_switch, bw_t_ireturn0, bw_t_ireturn1, bw_t_areturn, bw_t_return, bw_t_athrow, bw_t_try, List.lookup_cons, List.lookup_nil, bi_st, List.filter_cons, List.filter_nil, List.take_succ_cons, List.take_zero, List.take_nil, List.drop_succ_cons, List.drop_zero, List.reverse_cons, List.reverse_nil, List.nil_append, List.cons_append, Option.toList_some, Option.toList_none, List.length_cons, List.length_nil, bi_loc, List.zipIdx_cons, List.zipIdx_nil, List.map_cons, List.map_nil, List.getD_cons_zero, List.getD_cons_succ, Nat.zero_add, Bool.not_true, Bool.not_false, Bool.false_eq_true, if_true, if_false, ite_true, ite_false, ↓reduceIte, true_and, and_true, Bool.not_eq_true, beq_self_eq_true, Nat.reduceBEq, Nat.reduceEqDiff, Nat.reduceAdd, Nat.reduceLeDiff, Nat.reduceLT, Nat.reduceSub, Nat.reduceMul, Int32.reduceOfInt, Int32.reduceOfNat, Int32.reduceToNatClampNeg, Int32.reduceLT, Int32.reduceLE, Int32.reduceAdd, Int32.reduceSub, Int32.reduceMul, Int32.reduceDiv, Int32.reduceToInt, Int.reduceLT, Int.reduceSub, Int.reduceToNat, not_false_eq_true, ne_eq, or_true, true_or, or_false, false_or, and_false, false_and, not_true_eq_false, reduceCtorEq, and_self, or_self, eq_self, bh_k_sfi, bh_k_sfr, bh_k_sai, bh_k_sar, bh_k_new, bh_fi_sfi, bh_fi_sfr, bh_fi_sai, bh_fi_sar, bh_fi_new, bh_fr_sfi, bh_fr_sfr, bh_fr_sai, bh_fr_sar, bh_fr_new, bh_ai_sfi, bh_ai_sfr, bh_ai_sai, bh_ai_sar, bh_ai_new, bh_ar_sfi, bh_ar_sfr, bh_ar_sai, bh_ar_sar, bh_ar_new, bh_nx_sfi, bh_nx_sfr, bh_nx_sai, bh_nx_sar, bh_nx_new, bh_nc_sfi, bh_nc_sfr, bh_nc_sai, bh_nc_sar, bh_nc_new, bh_ns_sfi, bh_ns_sfr, bh_ns_sai, bh_ns_sar, bh_ns_new, bh_k_new2, bh_fi_new2, bh_fr_new2, bh_ai_new2, bh_ar_new2, bh_nx_new2, bh_nc_new2, bh_ns_new2, bh_ltS, bh_neS, bh_ne0, bh_e1, bh_e2, bh_e3, bh_l1, bh_l2, bh_l3, bh_m1, bh_m2, bh_m3, bh_leS, bh_le0, bh_gtS, bh_gt0, bl_im8, bl_im6, bl_im5, bl_im4, bl_im3, bl_im2, bl_im1, bl_i0, bl_i1, bl_i2, bl_i3, bl_i4, bl_i5, bl_i6, bl_i7, bl_i8, bl_i9, bl_i10, bl_i11, bl_i16, bl_i20, bl_i31, bl_i40, bl_i60, bl_i61, bl_i64, bl_i128, bl_i256, bl_i512, bl_i1000, bl_i1024, bl_i2048, bl_i4095, bl_i4096, bl_i8192, bl_i9000, bl_d32768, bl_d60000, bl_d60001, bl_d60002, bl_d100000, bl_d2147483647, bl_n0, bl_n1, bl_n2, bl_n3, bl_n4, bl_n5, bl_n6, bl_n7, bl_n8, bl_n9, bl_n10, bl_n11, bl_n16, bl_n20, bl_n31, bl_n40, bl_n60, bl_n61, bl_n64, bl_n128, bl_n256, bl_n512, bl_n1000, bl_n1024, bl_n2048, bl_n4095, bl_n4096, bl_n8192, bl_n9000, bl_n32768, bl_n60000, bl_n60001, bl_n60002, bl_n100000, bl_n2147483647, bl_p0, bl_p1, bl_p2, bl_p3, bl_p4, bl_p5, bl_p6, bl_p7, bl_p8, bl_p9, bl_p10, bl_p11, bl_p16, bl_p20, bl_p31, bl_p40, bl_p60, bl_p61, bl_p64, bl_p128, bl_p256, bl_p512, bl_p1000, bl_p1024, bl_p2048, bl_p4095, bl_p4096, bl_p8192, bl_p9000, bl_p32768, bl_p60000, bl_p60001, bl_p60002, bl_p100000, bl_p2147483647, Nat.add_assoc, Nat.lt_irrefl, Nat.le_refl, hv]
  · have hv : bx_cell L xs k = xs k := if_neg hc
    have hlt : k < L := by omega
    simp +decide only [bw_gi_s, bw_ga_s, bw_go_s, bw_w_i, bw_w_a, bw_w_l, bw_sum_n, bw_sum_c, bw_xs_n, bw_iconst, bw_bipush, bw_sipush, bw_ldc, bw_ldc_w, bw_anull, bw_iload0, bw_aload0, bw_istore0, bw_astore0, bw_iload1, bw_aload1, bw_istore1, bw_astore1, bw_iload2, bw_aload2, bw_istore2, bw_astore2, bw_iload3, bw_aload3, bw_istore3, bw_astore3, bw_iload, bw_aload, bw_istore, bw_astore, bw_iinc, bw_iadd, bw_isub, bw_imul, bw_iand, bw_ixor, bw_idiv, bw_irem, bw_i2l, bw_lcmp, bw_dupi, bw_dupa, bw_dup2ia, bw_dup2ii, bw_getf0, bw_getf2, bw_getf1, bw_putf0, bw_putf2, bw_putf1, bw_iaload, bw_baload, bw_laload, bw_aaload, bw_iastore, bw_bastore, bw_lastore, bw_aastore, bw_alen, bw_newa_int, bw_newa_boolean, bw_newa_long, bw_anewa, bw_multi, bw_new, bw_static, bw_virt, bw_obj, bw_t_nop, bw_t_goto, bw_t_eq_z, bw_t_eq_i, bw_t_ne_z, bw_t_ne_i, bw_t_lt_z, bw_t_lt_i, bw_t_ge_z, bw_t_ge_i, bw_t_gt_z, bw_t_gt_i, bw_t_le_z, bw_t_le_i, bw_t_null, bw_t_nonnull, bw_t_switch, bw_t_ireturn0, bw_t_ireturn1, bw_t_areturn, bw_t_return, bw_t_athrow, bw_t_try, List.lookup_cons, List.lookup_nil, bi_st, List.filter_cons, List.filter_nil, List.take_succ_cons, List.take_zero, List.take_nil, List.drop_succ_cons, List.drop_zero, List.reverse_cons, List.reverse_nil, List.nil_append, List.cons_append, Option.toList_some, Option.toList_none, List.length_cons, List.length_nil, bi_loc, List.zipIdx_cons, List.zipIdx_nil, List.map_cons, List.map_nil, List.getD_cons_zero, List.getD_cons_succ, Nat.zero_add, Bool.not_true, Bool.not_false, Bool.false_eq_true, if_true, if_false, ite_true, ite_false, ↓reduceIte, true_and, and_true, Bool.not_eq_true, beq_self_eq_true, Nat.reduceBEq, Nat.reduceEqDiff, Nat.reduceAdd, Nat.reduceLeDiff, Nat.reduceLT, Nat.reduceSub, Nat.reduceMul, Int32.reduceOfInt, Int32.reduceOfNat, Int32.reduceToNatClampNeg, Int32.reduceLT, Int32.reduceLE, Int32.reduceAdd, Int32.reduceSub, Int32.reduceMul, Int32.reduceDiv, Int32.reduceToInt, Int.reduceLT, Int.reduceSub, Int.reduceToNat, not_false_eq_true, ne_eq, or_true, true_or, or_false, false_or, and_false, false_and, not_true_eq_false, reduceCtorEq, and_self, or_self, eq_self, hk, bn_le hL hk2, hc]
    refine bw_step rfl ?_
    simp +decide only [bw_gi_s, bw_ga_s, bw_go_s, bw_w_i, bw_w_a, bw_w_l, bw_sum_n, bw_sum_c, bw_xs_n, bw_iconst, bw_bipush, bw_sipush, bw_ldc, bw_ldc_w, bw_anull, bw_iload0, bw_aload0, bw_istore0, bw_astore0, bw_iload1, bw_aload1, bw_istore1, bw_astore1, bw_iload2, bw_aload2, bw_istore2, bw_astore2, bw_iload3, bw_aload3, bw_istore3, bw_astore3, bw_iload, bw_aload, bw_istore, bw_astore, bw_iinc, bw_iadd, bw_isub, bw_imul, bw_iand, bw_ixor, bw_idiv, bw_irem, bw_i2l, bw_lcmp, bw_dupi, bw_dupa, bw_dup2ia, bw_dup2ii, bw_getf0, bw_getf2, bw_getf1, bw_putf0, bw_putf2, bw_putf1, bw_iaload, bw_baload, bw_laload, bw_aaload, bw_iastore, bw_bastore, bw_lastore, bw_aastore, bw_alen, bw_newa_int, bw_newa_boolean, bw_newa_long, bw_anewa, bw_multi, bw_new, bw_static, bw_virt, bw_obj, bw_t_nop, bw_t_goto, bw_t_eq_z, bw_t_eq_i, bw_t_ne_z, bw_t_ne_i, bw_t_lt_z, bw_t_lt_i, bw_t_ge_z, bw_t_ge_i, bw_t_gt_z, bw_t_gt_i, bw_t_le_z, bw_t_le_i, bw_t_null, bw_t_nonnull, bw_t_switch, bw_t_ireturn0, bw_t_ireturn1, bw_t_areturn, bw_t_return, bw_t_athrow, bw_t_try, List.lookup_cons, List.lookup_nil, bi_st, List.filter_cons, List.filter_nil, List.take_succ_cons, List.take_zero, List.take_nil, List.drop_succ_cons, List.drop_zero, List.reverse_cons, List.reverse_nil, List.nil_append, List.cons_append, Option.toList_some, Option.toList_none, List.length_cons, List.length_nil, bi_loc, List.zipIdx_cons, List.zipIdx_nil, List.map_cons, List.map_nil, List.getD_cons_zero, List.getD_cons_succ, Nat.zero_add, Bool.not_true, Bool.not_false, Bool.false_eq_true, if_true, if_false, ite_true, ite_false, ↓reduceIte, true_and, and_true, Bool.not_eq_true, beq_self_eq_true, Nat.reduceBEq, Nat.reduceEqDiff, Nat.reduceAdd, Nat.reduceLeDiff, Nat.reduceLT, Nat.reduceSub, Nat.reduceMul, Int32.reduceOfInt, Int32.reduceOfNat, Int32.reduceToNatClampNeg, Int32.reduceLT, Int32.reduceLE, Int32.reduceAdd, Int32.reduceSub, Int32.reduceMul, Int32.reduceDiv, Int32.reduceToInt, Int.reduceLT, Int.reduceSub, Int.reduceToNat, not_false_eq_true, ne_eq, or_true, true_or, or_false, false_or, and_false, false_and, not_true_eq_false, reduceCtorEq, and_self, or_self, eq_self, bh_k_sfi, bh_k_sfr, bh_k_sai, bh_k_sar, bh_k_new, bh_fi_sfi, bh_fi_sfr, bh_fi_sai, bh_fi_sar, bh_fi_new, bh_fr_sfi, bh_fr_sfr, bh_fr_sai, bh_fr_sar, bh_fr_new, bh_ai_sfi, bh_ai_sfr, bh_ai_sai, bh_ai_sar, bh_ai_new, bh_ar_sfi, bh_ar_sfr, bh_ar_sai, bh_ar_sar, bh_ar_new, bh_nx_sfi, bh_nx_sfr, bh_nx_sai, bh_nx_sar, bh_nx_new, bh_nc_sfi, bh_nc_sfr, bh_nc_sai, bh_nc_sar, bh_nc_new, bh_ns_sfi, bh_ns_sfr, bh_ns_sai, bh_ns_sar, bh_ns_new, bh_k_new2, bh_fi_new2, bh_fr_new2, bh_ai_new2, bh_ar_new2, bh_nx_new2, bh_nc_new2, bh_ns_new2, bh_ltS, bh_neS, bh_ne0, bh_e1, bh_e2, bh_e3, bh_l1, bh_l2, bh_l3, bh_m1, bh_m2, bh_m3, bh_leS, bh_le0, bh_gtS, bh_gt0, bl_im8, bl_im6, bl_im5, bl_im4, bl_im3, bl_im2, bl_im1, bl_i0, bl_i1, bl_i2, bl_i3, bl_i4, bl_i5, bl_i6, bl_i7, bl_i8, bl_i9, bl_i10, bl_i11, bl_i16, bl_i20, bl_i31, bl_i40, bl_i60, bl_i61, bl_i64, bl_i128, bl_i256, bl_i512, bl_i1000, bl_i1024, bl_i2048, bl_i4095, bl_i4096, bl_i8192, bl_i9000, bl_d32768, bl_d60000, bl_d60001, bl_d60002, bl_d100000, bl_d2147483647, bl_n0, bl_n1, bl_n2, bl_n3, bl_n4, bl_n5, bl_n6, bl_n7, bl_n8, bl_n9, bl_n10, bl_n11, bl_n16, bl_n20, bl_n31, bl_n40, bl_n60, bl_n61, bl_n64, bl_n128, bl_n256, bl_n512, bl_n1000, bl_n1024, bl_n2048, bl_n4095, bl_n4096, bl_n8192, bl_n9000, bl_n32768, bl_n60000, bl_n60001, bl_n60002, bl_n100000, bl_n2147483647, bl_p0, bl_p1, bl_p2, bl_p3, bl_p4, bl_p5, bl_p6, bl_p7, bl_p8, bl_p9, bl_p10, bl_p11, bl_p16, bl_p20, bl_p31, bl_p40, bl_p60, bl_p61, bl_p64, bl_p128, bl_p256, bl_p512, bl_p1000, bl_p1024, bl_p2048, bl_p4095, bl_p4096, bl_p8192, bl_p9000, bl_p32768, bl_p60000, bl_p60001, bl_p60002, bl_p100000, bl_p2147483647, Nat.add_assoc, Nat.lt_irrefl, Nat.le_refl, hk, bn_neg hk2, bn_nat hk2, hlt, hx]
    refine bw_step rfl ?_
    simp +decide only [bw_gi_s, bw_ga_s, bw_go_s, bw_w_i, bw_w_a, bw_w_l, bw_sum_n, bw_sum_c, bw_xs_n, bw_iconst, bw_bipush, bw_sipush, bw_ldc, bw_ldc_w, bw_anull, bw_iload0, bw_aload0, bw_istore0, bw_astore0, bw_iload1, bw_aload1, bw_istore1, bw_astore1, bw_iload2, bw_aload2, bw_istore2, bw_astore2, bw_iload3, bw_aload3, bw_istore3, bw_astore3, bw_iload, bw_aload, bw_istore, bw_astore, bw_iinc, bw_iadd, bw_isub, bw_imul, bw_iand, bw_ixor, bw_idiv, bw_irem, bw_i2l, bw_lcmp, bw_dupi, bw_dupa, bw_dup2ia, bw_dup2ii, bw_getf0, bw_getf2, bw_getf1, bw_putf0, bw_putf2, bw_putf1, bw_iaload, bw_baload, bw_laload, bw_aaload, bw_iastore, bw_bastore, bw_lastore, bw_aastore, bw_alen, bw_newa_int, bw_newa_boolean, bw_newa_long, bw_anewa, bw_multi, bw_new, bw_static, bw_virt, bw_obj, bw_t_nop, bw_t_goto, bw_t_eq_z, bw_t_eq_i, bw_t_ne_z, bw_t_ne_i, bw_t_lt_z, bw_t_lt_i, bw_t_ge_z, bw_t_ge_i, bw_t_gt_z, bw_t_gt_i, bw_t_le_z, bw_t_le_i, bw_t_null, bw_t_nonnull, bw_t_switch, bw_t_ireturn0, bw_t_ireturn1, bw_t_areturn, bw_t_return, bw_t_athrow, bw_t_try, List.lookup_cons, List.lookup_nil, bi_st, List.filter_cons, List.filter_nil, List.take_succ_cons, List.take_zero, List.take_nil, List.drop_succ_cons, List.drop_zero, List.reverse_cons, List.reverse_nil, List.nil_append, List.cons_append, Option.toList_some, Option.toList_none, List.length_cons, List.length_nil, bi_loc, List.zipIdx_cons, List.zipIdx_nil, List.map_cons, List.map_nil, List.getD_cons_zero, List.getD_cons_succ, Nat.zero_add, Bool.not_true, Bool.not_false, Bool.false_eq_true, if_true, if_false, ite_true, ite_false, ↓reduceIte, true_and, and_true, Bool.not_eq_true, beq_self_eq_true, Nat.reduceBEq, Nat.reduceEqDiff, Nat.reduceAdd, Nat.reduceLeDiff, Nat.reduceLT, Nat.reduceSub, Nat.reduceMul, Int32.reduceOfInt, Int32.reduceOfNat, Int32.reduceToNatClampNeg, Int32.reduceLT, Int32.reduceLE, Int32.reduceAdd, Int32.reduceSub, Int32.reduceMul, Int32.reduceDiv, Int32.reduceToInt, Int.reduceLT, Int.reduceSub, Int.reduceToNat, not_false_eq_true, ne_eq, or_true, true_or, or_false, false_or, and_false, false_and, not_true_eq_false, reduceCtorEq, and_self, or_self, eq_self, bh_k_sfi, bh_k_sfr, bh_k_sai, bh_k_sar, bh_k_new, bh_fi_sfi, bh_fi_sfr, bh_fi_sai, bh_fi_sar, bh_fi_new, bh_fr_sfi, bh_fr_sfr, bh_fr_sai, bh_fr_sar, bh_fr_new, bh_ai_sfi, bh_ai_sfr, bh_ai_sai, bh_ai_sar, bh_ai_new, bh_ar_sfi, bh_ar_sfr, bh_ar_sai, bh_ar_sar, bh_ar_new, bh_nx_sfi, bh_nx_sfr, bh_nx_sai, bh_nx_sar, bh_nx_new, bh_nc_sfi, bh_nc_sfr, bh_nc_sai, bh_nc_sar, bh_nc_new, bh_ns_sfi, bh_ns_sfr, bh_ns_sai, bh_ns_sar, bh_ns_new, bh_k_new2, bh_fi_new2, bh_fr_new2, bh_ai_new2, bh_ar_new2, bh_nx_new2, bh_nc_new2, bh_ns_new2, bh_ltS, bh_neS, bh_ne0, bh_e1, bh_e2, bh_e3, bh_l1, bh_l2, bh_l3, bh_m1, bh_m2, bh_m3, bh_leS, bh_le0, bh_gtS, bh_gt0, bl_im8, bl_im6, bl_im5, bl_im4, bl_im3, bl_im2, bl_im1, bl_i0, bl_i1, bl_i2, bl_i3, bl_i4, bl_i5, bl_i6, bl_i7, bl_i8, bl_i9, bl_i10, bl_i11, bl_i16, bl_i20, bl_i31, bl_i40, bl_i60, bl_i61, bl_i64, bl_i128, bl_i256, bl_i512, bl_i1000, bl_i1024, bl_i2048, bl_i4095, bl_i4096, bl_i8192, bl_i9000, bl_d32768, bl_d60000, bl_d60001, bl_d60002, bl_d100000, bl_d2147483647, bl_n0, bl_n1, bl_n2, bl_n3, bl_n4, bl_n5, bl_n6, bl_n7, bl_n8, bl_n9, bl_n10, bl_n11, bl_n16, bl_n20, bl_n31, bl_n40, bl_n60, bl_n61, bl_n64, bl_n128, bl_n256, bl_n512, bl_n1000, bl_n1024, bl_n2048, bl_n4095, bl_n4096, bl_n8192, bl_n9000, bl_n32768, bl_n60000, bl_n60001, bl_n60002, bl_n100000, bl_n2147483647, bl_p0, bl_p1, bl_p2, bl_p3, bl_p4, bl_p5, bl_p6, bl_p7, bl_p8, bl_p9, bl_p10, bl_p11, bl_p16, bl_p20, bl_p31, bl_p40, bl_p60, bl_p61, bl_p64, bl_p128, bl_p256, bl_p512, bl_p1000, bl_p1024, bl_p2048, bl_p4095, bl_p4096, bl_p8192, bl_p9000, bl_p32768, bl_p60000, bl_p60001, bl_p60002, bl_p100000, bl_p2147483647, Nat.add_assoc, Nat.lt_irrefl, Nat.le_refl, hv]
theorem bd_X9_all (h : bi_H) (a : Nat) (p k w : Int32) : bi_nx (bd_X9 h a p k w) = bi_nx h + 94 ∧ bi_nc (bd_X9 h a p k w) = bi_nc h + 94 ∧ bi_ns (bd_X9 h a p k w) = bi_ns h + 595632 + 16 * (bx_cl 16 8192 p).toNatClampNeg ∧ ∀ b, b < bi_nx h → bi_k (bd_X9 h a p k w) b = bi_k h b ∧ ∀ j, bi_ai (bd_X9 h a p k w) b j = bi_ai h b j := by
  obtain ⟨s1, s2, s3⟩ := bd_X9_s h a p k w
  obtain ⟨t1, t2, t3, t4, t5, t6⟩ := bd_its_ok (fun i => bi_nx h + 1 + i) (bi_nx h + 3) (bi_nx h + 13) (bx_cl 16 8192 p).toNatClampNeg 8 0 (bd_X9a h a p k w) (by omega)
  have f := bd_X9_f h a p k w
  unfold bd_X9
  generalize bd_its (fun i => bi_nx h + 1 + i) (bi_nx h + 3) (bi_nx h + 13) (bx_cl 16 8192 p).toNatClampNeg 8 0 (bd_X9a h a p k w) = X at *
  generalize bd_X9a h a p k w = Y at *
  refine ⟨by omega, by omega, by omega, fun b hb => ?_⟩
  obtain ⟨u1, -, -, u4⟩ := t4 b (by omega)
  obtain ⟨v1, v2⟩ := f b hb
  exact ⟨u1.trans v1, fun j => (u4 j).trans (v2 j)⟩
/-- the law's heap when its loop begins -/
def bg_H (b L : Nat) (xs : Nat → Int32) (sz : Nat) : bi_H := be_H (bd_X9 (bi_new (bi_h0 b L xs sz) (19, 0) 10) (sz + 1) (bx_cell L xs 0) (bx_cell L xs 1) (bx_cell L xs 2)) (bx_cell L xs 0) (bx_cell L xs 1) (bx_cell L xs 2)
section PT
variable {b L sz : Nat} {xs : Nat → Int32}
theorem bx_nx0 (b L : Nat) (xs : Nat → Int32) (sz : Nat) : bi_nx (bi_h0 b L xs sz) = sz + 1 := rfl
theorem bg_g1 (hb : b < sz) : bi_nx (bi_new (bi_h0 b L xs sz) (19, 0) 10) = sz + 2 ∧ bi_k (bi_new (bi_h0 b L xs sz) (19, 0) 10) (b + 1) = (4, L) ∧ (∀ j, bi_ai (bi_new (bi_h0 b L xs sz) (19, 0) 10) (b + 1) j = xs j) ∧ bi_k (bi_new (bi_h0 b L xs sz) (19, 0) 10) (sz + 1) = (19, 0) ∧ (∀ f, bi_fi (bi_new (bi_h0 b L xs sz) (19, 0) 10) 9 f (sz + 1) = 0) ∧ bi_nc (bi_new (bi_h0 b L xs sz) (19, 0) 10) = 1 ∧ bi_ns (bi_new (bi_h0 b L xs sz) (19, 0) 10) = 10 := by
  have hne : ¬ b + 1 = sz + 1 := by omega
  refine ⟨rfl, ?_, fun j => ?_, ?_, fun f => ?_, rfl, rfl⟩
  · rw [bh_k_new, bx_nx0, if_neg hne]
    exact if_pos rfl
  · rw [bh_ai_new, bx_nx0, if_neg hne]
    exact if_pos rfl
  · rw [bh_k_new, bx_nx0, if_pos rfl]
  · rw [bh_fi_new, bx_nx0, if_pos rfl]
set_option maxRecDepth 4096 in
theorem s_law0 (hb : b < sz) (hL : L < 2147483648) (Q : bw_Q) (hq : bw_r bt_P 222 1 (bj_L (b + 1) (sz + 1) (sz + 96) (sz + 371) 3) [] (bg_H b L xs sz) Q) : bw_r bt_P 222 0 [(0, .inr (.inl (b + 1)))] [] (bi_h0 b L xs sz) Q := by
  obtain ⟨z1, k1, x1, y1, i1, -, -⟩ := bg_g1 (L := L) (xs := xs) hb
  have hx0 : bi_nx (bi_h0 b L xs sz) = sz + 1 := rfl
  obtain ⟨z2, -, -, f2⟩ := bd_X9_all (bi_new (bi_h0 b L xs sz) (19, 0) 10) (sz + 1) (bx_cell L xs 0) (bx_cell L xs 1) (bx_cell L xs 2)
  obtain ⟨k2, x2⟩ := f2 (b + 1) (by omega)
  have e9 := c_X9_init (sz + 1) (bx_cell L xs 0) (bx_cell L xs 1) (bx_cell L xs 2) (bi_new (bi_h0 b L xs sz) (19, 0) 10) (by rw [y1]) (by omega) i1
  unfold bg_H at hq
  rw [z1] at z2
  rw [k1] at k2
  have x2' : ∀ j, bi_ai (bd_X9 (bi_new (bi_h0 b L xs sz) (19, 0) 10) (sz + 1) (bx_cell L xs 0) (bx_cell L xs 1) (bx_cell L xs 2)) (b + 1) j = xs j := fun j => by rw [x2 j, x1 j]
  clear f2 x2
  have hn := (be_H_n (bd_X9 (bi_new (bi_h0 b L xs sz) (19, 0) 10) (sz + 1) (bx_cell L xs 0) (bx_cell L xs 1) (bx_cell L xs 2)) (bx_cell L xs 0) (bx_cell L xs 1) (bx_cell L xs 2)).1
  have y1' : (bi_k (bi_new (bi_h0 b L xs sz) (19, 0) 10) (sz + 1)).1 = 19 := by rw [y1]
  have e0 : ∀ K, bw_C bt_P 215 [.inr (.inl (b + 1)), .inl 0] (bi_new (bi_h0 b L xs sz) (19, 0) 10) K ↔ K (some (.inl (bx_cell L xs 0))) (bi_new (bi_h0 b L xs sz) (19, 0) 10) := c_cell (b + 1) L xs 0 _ k1 x1 hL (by decide)
  have e1 : ∀ K, bw_C bt_P 215 [.inr (.inl (b + 1)), .inl 1] (bi_new (bi_h0 b L xs sz) (19, 0) 10) K ↔ K (some (.inl (bx_cell L xs 1))) (bi_new (bi_h0 b L xs sz) (19, 0) 10) := c_cell (b + 1) L xs 1 _ k1 x1 hL (by decide)
  have e2 : ∀ K, bw_C bt_P 215 [.inr (.inl (b + 1)), .inl 2] (bi_new (bi_h0 b L xs sz) (19, 0) 10) K ↔ K (some (.inl (bx_cell L xs 2))) (bi_new (bi_h0 b L xs sz) (19, 0) 10) := c_cell (b + 1) L xs 2 _ k1 x1 hL (by decide)
  generalize bd_X9 (bi_new (bi_h0 b L xs sz) (19, 0) 10) (sz + 1) (bx_cell L xs 0) (bx_cell L xs 1) (bx_cell L xs 2) = X at *
  have k3 : bi_k (bi_new X (22, 0) 39) (b + 1) = (4, L) := by rw [bh_k_new, z2, if_neg (by omega), k2]
  have x3 : ∀ j, bi_ai (bi_new X (22, 0) 39) (b + 1) j = xs j := fun j => by rw [bh_ai_new, z2, if_neg (by omega), x2' j]
  have y3 : (bi_k (bi_new X (22, 0) 39) (sz + 96)).1 = 22 := by
    rw [bh_k_new, z2, if_pos rfl]
  have z3 : bi_nx (bi_new X (22, 0) 39) = sz + 97 := by rw [bh_nx_new, z2]
  have g0 : ∀ K, bw_C bt_P 215 [.inr (.inl (b + 1)), .inl 0] (bi_new X (22, 0) 39) K ↔ K (some (.inl (bx_cell L xs 0))) (bi_new X (22, 0) 39) := c_cell (b + 1) L xs 0 _ k3 x3 hL (by decide)
  have g1 : ∀ K, bw_C bt_P 215 [.inr (.inl (b + 1)), .inl 1] (bi_new X (22, 0) 39) K ↔ K (some (.inl (bx_cell L xs 1))) (bi_new X (22, 0) 39) := c_cell (b + 1) L xs 1 _ k3 x3 hL (by decide)
  have g2 : ∀ K, bw_C bt_P 215 [.inr (.inl (b + 1)), .inl 2] (bi_new X (22, 0) 39) K ↔ K (some (.inl (bx_cell L xs 2))) (bi_new X (22, 0) 39) := c_cell (b + 1) L xs 2 _ k3 x3 hL (by decide)
  have e12 := c_X12_init (sz + 96) (bx_cell L xs 0) (bx_cell L xs 1) (bx_cell L xs 2) (bi_new X (22, 0) 39) y3 (by omega)
  have hd : be_H X (bx_cell L xs 0) (bx_cell L xs 1) (bx_cell L xs 2) = bi_new (bx_X12 (bi_new X (22, 0) 39) (sz + 96) (bx_cell L xs 0) (bx_cell L xs 1) (bx_cell L xs 2)) (3, 1) 1 := by
    unfold be_H
    rw [z2]
  rw [hd] at hq hn
  rw [bh_nx_new, z2] at hn
  have hlast : bi_nx (bx_X12 (bi_new X (22, 0) 39) (sz + 96) (bx_cell L xs 0) (bx_cell L xs 1) (bx_cell L xs 2)) = sz + 371 := by omega
  refine bw_step rfl ?_
  simp +decide only [bw_gi_s, bw_ga_s, bw_go_s, bw_w_i, bw_w_a, bw_w_l, bw_sum_n, bw_sum_c, bw_xs_n, bw_iconst, bw_bipush, bw_sipush, bw_ldc, bw_ldc_w, bw_anull, bw_iload0, bw_aload0, bw_istore0, bw_astore0, bw_iload1, bw_aload1, bw_istore1, bw_astore1, bw_iload2, bw_aload2, bw_istore2, bw_astore2, bw_iload3, bw_aload3, bw_istore3, bw_astore3, bw_iload, bw_aload, bw_istore, bw_astore, bw_iinc, bw_iadd, bw_isub, bw_imul, bw_iand, bw_ixor, bw_idiv, bw_irem, bw_i2l, bw_lcmp, bw_dupi, bw_dupa, bw_dup2ia, bw_dup2ii, bw_getf0, bw_getf2, bw_getf1, bw_putf0, bw_putf2, bw_putf1, bw_iaload, bw_baload, bw_laload, bw_aaload, bw_iastore, bw_bastore, bw_lastore, bw_aastore, bw_alen, bw_newa_int, bw_newa_boolean, bw_newa_long, bw_anewa, bw_multi, bw_new, bw_static, bw_virt, bw_obj, bw_t_nop, bw_t_goto, bw_t_eq_z, bw_t_eq_i, bw_t_ne_z, bw_t_ne_i, bw_t_lt_z, bw_t_lt_i, bw_t_ge_z, bw_t_ge_i, bw_t_gt_z, bw_t_gt_i, bw_t_le_z, bw_t_le_i, bw_t_null, bw_t_nonnull, bw_t_switch, bw_t_ireturn0, bw_t_ireturn1, bw_t_areturn, bw_t_return, bw_t_athrow, bw_t_try, List.lookup_cons, List.lookup_nil, bi_st, List.filter_cons, List.filter_nil, List.take_succ_cons, List.take_zero, List.take_nil, List.drop_succ_cons, List.drop_zero, List.reverse_cons, List.reverse_nil, List.nil_append, List.cons_append, Option.toList_some, Option.toList_none, List.length_cons, List.length_nil, bi_loc, List.zipIdx_cons, List.zipIdx_nil, List.map_cons, List.map_nil, List.getD_cons_zero, List.getD_cons_succ, Nat.zero_add, Bool.not_true, Bool.not_false, Bool.false_eq_true, if_true, if_false, ite_true, ite_false, ↓reduceIte, true_and, and_true, Bool.not_eq_true, beq_self_eq_true, Nat.reduceBEq, Nat.reduceEqDiff, Nat.reduceAdd, Nat.reduceLeDiff, Nat.reduceLT, Nat.reduceSub, Nat.reduceMul, Int32.reduceOfInt, Int32.reduceOfNat, Int32.reduceToNatClampNeg, Int32.reduceLT, Int32.reduceLE, Int32.reduceAdd, Int32.reduceSub, Int32.reduceMul, Int32.reduceDiv, Int32.reduceToInt, Int.reduceLT, Int.reduceSub, Int.reduceToNat, not_false_eq_true, ne_eq, or_true, true_or, or_false, false_or, and_false, false_and, not_true_eq_false, reduceCtorEq, and_self, or_self, eq_self, bw_spec, hx0, z2, hlast, e0, e1, e2, g0, g1, g2, e9, e12, y1', y3]
  unfold bj_L at hq
  refine bw_sub _ ?_ hq
  intro q hq9
  simp only [List.mem_cons, List.not_mem_nil, or_false] at hq9
  rcases hq9 with rfl | rfl | rfl | rfl | rfl <;> rfl
/-- when the loop begins -/
theorem bg_start (hb : b < sz) : bj_V (b + 1) (sz + 371) L (sz + 1) (sz + 96) 400 2000000 0 xs 0 (bg_H b L xs sz) := by
  obtain ⟨z1, k1, x1, y1, i1, c1, n1⟩ := bg_g1 (L := L) (xs := xs) hb
  obtain ⟨z2, c2, n2, f2⟩ := bd_X9_all (bi_new (bi_h0 b L xs sz) (19, 0) 10) (sz + 1) (bx_cell L xs 0) (bx_cell L xs 1) (bx_cell L xs 2)
  obtain ⟨k2, x2⟩ := f2 (b + 1) (by omega)
  have bp := (bg_ok (bx_cell L xs 0) (bx_cell L xs 1) (bx_cell L xs 2)).2
  have bp' : (bx_cl 16 8192 (bx_cell L xs 0)).toNatClampNeg ≤ 8192 := bp
  obtain ⟨z3, c3, n3⟩ := be_H_n (bd_X9 (bi_new (bi_h0 b L xs sz) (19, 0) 10) (sz + 1) (bx_cell L xs 0) (bx_cell L xs 1) (bx_cell L xs 2)) (bx_cell L xs 0) (bx_cell L xs 1) (bx_cell L xs 2)
  obtain ⟨f3, r3⟩ := be_H_f (bd_X9 (bi_new (bi_h0 b L xs sz) (19, 0) 10) (sz + 1) (bx_cell L xs 0) (bx_cell L xs 1) (bx_cell L xs 2)) (bx_cell L xs 0) (bx_cell L xs 1) (bx_cell L xs 2)
  have l3 := be_H_l (bd_X9 (bi_new (bi_h0 b L xs sz) (19, 0) 10) (sz + 1) (bx_cell L xs 0) (bx_cell L xs 1) (bx_cell L xs 2)) (bx_cell L xs 0) (bx_cell L xs 1) (bx_cell L xs 2)
  have eH : be_H (bd_X9 (bi_new (bi_h0 b L xs sz) (19, 0) 10) (sz + 1) (bx_cell L xs 0) (bx_cell L xs 1) (bx_cell L xs 2)) (bx_cell L xs 0) (bx_cell L xs 1) (bx_cell L xs 2) = bg_H b L xs sz := rfl
  have zX : bi_nx (bd_X9 (bi_new (bi_h0 b L xs sz) (19, 0) 10) (sz + 1) (bx_cell L xs 0) (bx_cell L xs 1) (bx_cell L xs 2)) = sz + 96 := by omega
  rw [eH] at z3 c3 n3 f3 r3 l3
  rw [zX] at z3 f3 r3 l3
  have M := bg_ms (g := bd_X9 (bi_new (bi_h0 b L xs sz) (19, 0) 10) (sz + 1) (bx_cell L xs 0) (bx_cell L xs 1) (bx_cell L xs 2)) (bx_cell L xs 0) (bx_cell L xs 1) (bx_cell L xs 2) (by omega) eH.symm (fun c i => sz + 96 + be_oB c i) (fun c i => by rw [zX])
  have hz : sz + 1 + 95 = sz + 96 := by omega
  have Cs := bg_cs (p := bx_cell L xs 0) (k := bx_cell L xs 1) (w := bx_cell L xs 2) (h := bg_H b L xs sz) z1 y1 i1 (by rw [hz]; exact f3) (by rw [hz]; exact r3) (by omega) (by omega) (fun c i => if c < 98 then sz + 1 + be_oA c i else if c = 98 then bi_nx (bg_H b L xs sz) else mj_q (fun c i => sz + 96 + be_oB c i) 0 (bi_nx (bg_H b L xs sz)) i) (fun c i hc => if_pos hc) rfl
  have V := bg_V (bx_cell L xs 0) (bx_cell L xs 1) (bx_cell L xs 2)
  have P := bg_ph (bx_cell L xs 0) (bx_cell L xs 1) (bx_cell L xs 2)
  have ks := (f3 (b + 1) (by omega)).1
  have xs3 := (f3 (b + 1) (by omega)).2.2.2
  generalize bg_H b L xs sz = h at *
  refine ⟨fun c i => if c < 98 then sz + 1 + be_oA c i else if c = 98 then bi_nx h else mj_q (fun c i => sz + 96 + be_oB c i) 0 (bi_nx h) i, fun c i => sz + 96 + be_oB c i, bg_S (bx_cell L xs 0) (bx_cell L xs 1) (bx_cell L xs 2), bi_nc h, bi_ns h, 0, rfl, rfl, ⟨⟨0, Nat.le_refl _, Cs⟩, ⟨0, Nat.le_refl _, M⟩, fun c i c' i' hi hi' e => ?_, rfl, fun c i hi => ⟨1000 * c + i, ?_⟩⟩, V, ⟨⟨?_, by omega, fun j => ?_⟩, l3, by omega⟩, by omega, ?_, Nat.le_refl _⟩
  · obtain ⟨u1, u2⟩ := ca_bd_lt hi
    have u3 := (be_a1 c u1 i u2 hi).2
    have hc : c < 98 := Nat.lt_trans u1 (by decide)
    have e1 : (if c < 98 then sz + 1 + be_oA c i else if c = 98 then bi_nx h else mj_q (fun c i => sz + 96 + be_oB c i) 0 (bi_nx h) i) = sz + 96 + be_oB c' i' := e
    rw [if_pos hc] at e1
    clear e Cs M
    omega
  · show mj_q (fun c i => sz + 96 + be_oB c i) 0 (bi_nx h) (1000 * c + i) = _
    exact mj_q_in hi
  · rw [ks, k2, k1]
  · rw [xs3 j, x2 j, x1 j]
  · rw [P]
    omega
end PT
/-- the law answers 1, for every script, within the room -/
theorem bi_runs : bi_Runs 3075 100000 7000000 := by
  intro b n xs sz hL hb
  have hr : bw_r bt_P 222 0 [(0, .inr (.inl (b + 1)))] [] (bi_h0 b n xs sz) bj_E := by
    refine s_law0 hb (by omega) _ ?_
    have W := bg_start (L := n) (xs := xs) hb
    by_cases h9 : n < 9
    · obtain ⟨F, E⟩ := W.ends (by decide) (by decide) (by decide)
      exact w_short h9 F E
    · exact w_loop (by omega) hL (by decide) (by decide) (by decide) 512 0 (by omega) (by omega) _ W
  obtain ⟨m, o, g, h1, rfl, h2, h3⟩ := hr
  exact ⟨m, g, h1, h2, h3⟩
