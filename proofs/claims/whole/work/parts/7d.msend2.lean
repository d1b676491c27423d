/-! the reference: HELLO, DATA -/
section MH
variable {O : Nat → Prop} {B : Nat → Nat → Nat} {H : List (Nat × ba_G)} {e : Nat} {g0 h h' : bi_H} {x y z : Nat} {S S' : ba_S} {s i : Nat}
/-- a message: so many items are in it -/
def mi_n (B : Nat → Nat → Nat) (h : bi_H) (i n : Nat) (f g k : Nat → Int32) : Prop := bi_fi h 10 7 (B 10 i) = Int32.ofNat n ∧ ∀ j, j < n → bi_ai h (B 70 i) j = f j ∧ bi_ai h (B 71 i) j = g j ∧ bi_ai h (B 72 i) j = k j
/-- one more item -/
def mi_a (B : Nat → Nat → Nat) (h : bi_H) (i n : Nat) (u v w : Int32) : bi_H := bi_sfi (bi_sai (bi_sai (bi_sai h (B 70 i) n u) (B 71 i) n v) (B 72 i) n w) 10 7 (B 10 i) (Int32.ofNat (n + 1))
theorem mi_n.add (L : mb_lay B S h) (hi : i < 61) {n : Nat} {f g k : Nat → Int32} (M : mi_n B h i n f g k) : mi_n B (mi_a B h i n (f n) (g n) (k n)) i (n + 1) f g k := by
  have n1 : (B 70 i = B 71 i) = False := L.ne (mi1 hi rfl) (mi1 hi rfl) (Or.inl (by decide))
  have n2 : (B 70 i = B 72 i) = False := L.ne (mi1 hi rfl) (mi1 hi rfl) (Or.inl (by decide))
  have n3 : (B 71 i = B 72 i) = False := L.ne (mi1 hi rfl) (mi1 hi rfl) (Or.inl (by decide))
  have n4 : (B 71 i = B 70 i) = False := L.ne (mi1 hi rfl) (mi1 hi rfl) (Or.inl (by decide))
  have n5 : (B 72 i = B 70 i) = False := L.ne (mi1 hi rfl) (mi1 hi rfl) (Or.inl (by decide))
  have n6 : (B 72 i = B 71 i) = False := L.ne (mi1 hi rfl) (mi1 hi rfl) (Or.inl (by decide))
  unfold mi_a
  refine ⟨by rw [bh_fi_sfi, if_pos ⟨rfl, rfl, rfl⟩], fun j hj => ?_⟩
  simp only [bh_ai_sfi, bh_ai_sai, n1, n2, n3, n4, n5, n6, false_and, if_false, true_and]
  by_cases c : j = n
  · rw [if_pos c, if_pos c, if_pos c, c]
    exact ⟨rfl, rfl, rfl⟩
  · rw [if_neg c, if_neg c, if_neg c]
    exact M.2 j (by omega)
theorem mi_a.d (h : bi_H) (n : Nat) (u v w : Int32) : md B (mf_P i) (mf_Z i) h (mi_a B h i n u v w) := (((md.sai h (by simp) _ _).tr (md.sai _ (by simp) _ _)).tr (md.sai _ (by simp) _ _)).tr (md.sfi _ (by simp) _)
theorem mi_a.f (h : bi_H) (n : Nat) (u v w : Int32) (c k a : Nat) (hk : k ≠ 7 ∨ c ≠ 10) : bi_fi (mi_a B h i n u v w) c k a = bi_fi h c k a := by
  unfold mi_a
  rw [bh_fi_sfi, if_neg (fun z => by omega)]
  rfl
/-- send: HELLO's items -/
theorem nl_hello (L0 : mb_lay B S h) (hi : i < 61) (hs : s < 8) (hN : s % 4 < bz_N S) {sn : List (Nat × Nat)} (hl : sn.length ≤ 15) : ∀ (k n : Nat) (h1 : bi_H), k + n = sn.length → md B (mf_P i) (mf_Z i) h h1 → (∀ j, j < sn.length → bi_ai h1 (B 64 s) j = Int32.ofNat (sn.getD j (0, 0)).1) → (∀ c k a, (k ≠ 7 ∨ c ≠ 10) → bi_fi h1 c k a = bi_fi h c k a) → mi_n B h1 i n (fun j => Int32.ofNat (sn.getD (sn.length - 1 - j) (0, 0)).1) (fun _ => 0) (fun _ => 0) → ∃ h', (∀ Q : bw_Q, bw_r bt_P 73 8 [(0, .inr (.inl (B 12 0))), (7, .inr (.inl (B 10 i)))] [] h' Q → bw_r bt_P 73 5 [(0, .inr (.inl (B 12 0))), (1, .inr (.inl (B 11 s))), (2, .inl 10), (7, .inr (.inl (B 10 i))), (8, .inl (Int32.ofNat k - 1))] [] h1 Q) ∧ md B (mf_P i) (mf_Z i) h h' ∧ (∀ c k a, (k ≠ 7 ∨ c ≠ 10) → bi_fi h' c k a = bi_fi h c k a) ∧ mi_n B h' i sn.length (fun j => Int32.ofNat (sn.getD (sn.length - 1 - j) (0, 0)).1) (fun _ => 0) (fun _ => 0)
  | 0, n, h1, hk, D1, hA, hF, M => by
    have e1 : n = sn.length := by omega
    subst e1
    refine ⟨h1, fun Q hQ => ?_, D1, hF, M⟩
    have e0 : Int32.ofNat 0 - 1 = -1 := rfl
    rw [e0]
    (refine bw_step rfl ?_; simp +decide only [bw_gi_s, bw_ga_s, bw_go_s, bw_w_i, bw_w_a, bw_w_l, bw_sum_n, bw_sum_c, bw_xs_n, bw_iconst, bw_bipush, bw_sipush, bw_ldc, bw_ldc_w, bw_anull, bw_iload0, bw_aload0, bw_istore0, bw_astore0, bw_iload1, bw_aload1, bw_istore1, bw_astore1, bw_iload2, bw_aload2, bw_istore2, bw_astore2, bw_iload3, bw_aload3, bw_istore3, bw_astore3, bw_iload, bw_aload, bw_istore, bw_astore, bw_iinc, bw_iadd, bw_isub, bw_imul, bw_iand, bw_ixor, bw_idiv, bw_irem, bw_i2l, bw_lcmp, bw_dupi, bw_dupa, bw_dup2ia, bw_dup2ii, bw_getf0, bw_getf2, bw_getf1, bw_putf0, bw_putf2, bw_putf1, bw_iaload, bw_baload, bw_laload, bw_aaload, bw_iastore, bw_bastore, bw_lastore, bw_aastore, bw_alen, bw_newa_int, bw_newa_boolean, bw_newa_long, bw_anewa, bw_multi, bw_new, bw_static, bw_virt, bw_obj, bw_t_nop, bw_t_goto, bw_t_eq_z, bw_t_eq_i, bw_t_ne_z, bw_t_ne_i, bw_t_lt_z, bw_t_lt_i, bw_t_ge_z, bw_t_ge_i, bw_t_gt_z, bw_t_gt_i, bw_t_le_z, bw_t_le_i, bw_t_null, bw_t_nonnull, bw_t_switch, bw_t_ireturn0, bw_t_ireturn1, bw_t_areturn, bw_t_return, bw_t_athrow, bw_t_try, List.lookup_cons, List.lookup_nil, bi_st, List.filter_cons, List.filter_nil, List.take_succ_cons, List.take_zero, List.take_nil, List.drop_succ_cons, List.drop_zero, List.reverse_cons, List.reverse_nil, List.nil_append, List.cons_append, Option.toList_some, Option.toList_none, List.length_cons, List.length_nil, bi_loc, List.zipIdx_cons, List.zipIdx_nil, List.map_cons, List.map_nil, List.getD_cons_zero, List.getD_cons_succ, Nat.zero_add, Bool.not_true, Bool.not_false, Bool.false_eq_true, if_true, if_false, ite_true, ite_false, ↓reduceIte, true_and, and_true, Bool.not_eq_true, beq_self_eq_true, Nat.reduceBEq, Nat.reduceEqDiff, Nat.reduceAdd, Nat.reduceLeDiff, Nat.reduceLT, Nat.reduceSub, Nat.reduceMul, Int32.reduceOfInt, Int32.reduceOfNat, Int32.reduceToNatClampNeg, Int32.reduceLT, Int32.reduceLE, Int32.reduceAdd, Int32.reduceSub, Int32.reduceMul, Int32.reduceDiv, Int32.reduceToInt, Int.reduceLT, Int.reduceSub, Int.reduceToNat, not_false_eq_true, ne_eq, or_true, true_or, or_false, false_or, and_false, false_and, not_true_eq_false, reduceCtorEq, and_self, or_self, eq_self, bh_k_sfi, bh_k_sfr, bh_k_sai, bh_k_sar, bh_k_new, bh_fi_sfi, bh_fi_sfr, bh_fi_sai, bh_fi_sar, bh_fi_new, bh_fr_sfi, bh_fr_sfr, bh_fr_sai, bh_fr_sar, bh_fr_new, bh_ai_sfi, bh_ai_sfr, bh_ai_sai, bh_ai_sar, bh_ai_new, bh_ar_sfi, bh_ar_sfr, bh_ar_sai, bh_ar_sar, bh_ar_new, bh_nx_sfi, bh_nx_sfr, bh_nx_sai, bh_nx_sar, bh_nx_new, bh_nc_sfi, bh_nc_sfr, bh_nc_sai, bh_nc_sar, bh_nc_new, bh_ns_sfi, bh_ns_sfr, bh_ns_sai, bh_ns_sar, bh_ns_new, bh_k_new2, bh_fi_new2, bh_fr_new2, bh_ai_new2, bh_ar_new2, bh_nx_new2, bh_nc_new2, bh_ns_new2, Nat.lt_irrefl, Nat.le_refl, bq_le0, bq_neg, bq_nat, bq_lt, bq_le, bq_eq, bn_one, bn_dec])
    (refine bw_sub2 _ ?_ (hQ); exact ⟨rfl, rfl, trivial⟩)
  | k + 1, n, h1, hk, D1, hA, hF, M => by
    have L := D1.lay L0 (S' := S) (fun _ _ => rfl) rfl
    have M2 := M.add L hi
    have D2 := mi_a.d (B := B) (i := i) h1 n (Int32.ofNat (sn.getD (sn.length - 1 - n) (0, 0)).1) 0 0
    obtain ⟨h3, r3, rest⟩ := nl_hello L0 hi hs hN hl k (n + 1) _ (by omega) (D1.tr D2) (fun j hj => by
      rw [D2.ai L (fun q hq => (mf_inZ hi q hq).1) (mi2 hs hN) (by simp)]
      exact hA j hj) (fun c k a hk => by
      rw [mi_a.f _ _ _ _ _ _ _ _ hk]
      exact hF c k a hk) M2
    refine ⟨h3, fun Q hQ => ?_, rest⟩
    have r3 := r3 Q hQ
    have e0 : Int32.ofNat (k + 1) - 1 = Int32.ofNat k := bq_sub1 (Nat.succ_pos k)
    rw [e0]
    have ek : sn.length - 1 - n = k := by omega
    rw [ek] at r3
    have a64 := hA k (by omega)
    have q1 : k < 60001 := by omega
    have q2 : k < 40 := by omega
    have q3 : n < 60001 := by omega
    have q4 : n < 40 := by omega
    have f7 := M.1
    have n1 : (B 64 s = B 70 i) = False := L.ne (mi2 hs hN) (mi1 hi rfl) (Or.inl (by decide))
    unfold mi_a at r3
    (refine bw_step rfl ?_; simp +decide only [bw_gi_s, bw_ga_s, bw_go_s, bw_w_i, bw_w_a, bw_w_l, bw_sum_n, bw_sum_c, bw_xs_n, bw_iconst, bw_bipush, bw_sipush, bw_ldc, bw_ldc_w, bw_anull, bw_iload0, bw_aload0, bw_istore0, bw_astore0, bw_iload1, bw_aload1, bw_istore1, bw_astore1, bw_iload2, bw_aload2, bw_istore2, bw_astore2, bw_iload3, bw_aload3, bw_istore3, bw_astore3, bw_iload, bw_aload, bw_istore, bw_astore, bw_iinc, bw_iadd, bw_isub, bw_imul, bw_iand, bw_ixor, bw_idiv, bw_irem, bw_i2l, bw_lcmp, bw_dupi, bw_dupa, bw_dup2ia, bw_dup2ii, bw_getf0, bw_getf2, bw_getf1, bw_putf0, bw_putf2, bw_putf1, bw_iaload, bw_baload, bw_laload, bw_aaload, bw_iastore, bw_bastore, bw_lastore, bw_aastore, bw_alen, bw_newa_int, bw_newa_boolean, bw_newa_long, bw_anewa, bw_multi, bw_new, bw_static, bw_virt, bw_obj, bw_t_nop, bw_t_goto, bw_t_eq_z, bw_t_eq_i, bw_t_ne_z, bw_t_ne_i, bw_t_lt_z, bw_t_lt_i, bw_t_ge_z, bw_t_ge_i, bw_t_gt_z, bw_t_gt_i, bw_t_le_z, bw_t_le_i, bw_t_null, bw_t_nonnull, bw_t_switch, bw_t_ireturn0, bw_t_ireturn1, bw_t_areturn, bw_t_return, bw_t_athrow, bw_t_try, List.lookup_cons, List.lookup_nil, bi_st, List.filter_cons, List.filter_nil, List.take_succ_cons, List.take_zero, List.take_nil, List.drop_succ_cons, List.drop_zero, List.reverse_cons, List.reverse_nil, List.nil_append, List.cons_append, Option.toList_some, Option.toList_none, List.length_cons, List.length_nil, bi_loc, List.zipIdx_cons, List.zipIdx_nil, List.map_cons, List.map_nil, List.getD_cons_zero, List.getD_cons_succ, Nat.zero_add, Bool.not_true, Bool.not_false, Bool.false_eq_true, if_true, if_false, ite_true, ite_false, ↓reduceIte, true_and, and_true, Bool.not_eq_true, beq_self_eq_true, Nat.reduceBEq, Nat.reduceEqDiff, Nat.reduceAdd, Nat.reduceLeDiff, Nat.reduceLT, Nat.reduceSub, Nat.reduceMul, Int32.reduceOfInt, Int32.reduceOfNat, Int32.reduceToNatClampNeg, Int32.reduceLT, Int32.reduceLE, Int32.reduceAdd, Int32.reduceSub, Int32.reduceMul, Int32.reduceDiv, Int32.reduceToInt, Int.reduceLT, Int.reduceSub, Int.reduceToNat, not_false_eq_true, ne_eq, or_true, true_or, or_false, false_or, and_false, false_and, not_true_eq_false, reduceCtorEq, and_self, or_self, eq_self, bh_k_sfi, bh_k_sfr, bh_k_sai, bh_k_sar, bh_k_new, bh_fi_sfi, bh_fi_sfr, bh_fi_sai, bh_fi_sar, bh_fi_new, bh_fr_sfi, bh_fr_sfr, bh_fr_sai, bh_fr_sar, bh_fr_new, bh_ai_sfi, bh_ai_sfr, bh_ai_sai, bh_ai_sar, bh_ai_new, bh_ar_sfi, bh_ar_sfr, bh_ar_sai, bh_ar_sar, bh_ar_new, bh_nx_sfi, bh_nx_sfr, bh_nx_sai, bh_nx_sar, bh_nx_new, bh_nc_sfi, bh_nc_sfr, bh_nc_sai, bh_nc_sar, bh_nc_new, bh_ns_sfi, bh_ns_sfr, bh_ns_sai, bh_ns_sar, bh_ns_new, bh_k_new2, bh_fi_new2, bh_fr_new2, bh_ai_new2, bh_ar_new2, bh_nx_new2, bh_nc_new2, bh_ns_new2, Nat.lt_irrefl, Nat.le_refl, bq_le0, bq_neg, bq_nat, bq_lt, bq_le, bq_eq, bn_one, bn_dec, q1])
    (refine bw_step rfl ?_; simp +decide only [bw_gi_s, bw_ga_s, bw_go_s, bw_w_i, bw_w_a, bw_w_l, bw_sum_n, bw_sum_c, bw_xs_n, bw_iconst, bw_bipush, bw_sipush, bw_ldc, bw_ldc_w, bw_anull, bw_iload0, bw_aload0, bw_istore0, bw_astore0, bw_iload1, bw_aload1, bw_istore1, bw_astore1, bw_iload2, bw_aload2, bw_istore2, bw_astore2, bw_iload3, bw_aload3, bw_istore3, bw_astore3, bw_iload, bw_aload, bw_istore, bw_astore, bw_iinc, bw_iadd, bw_isub, bw_imul, bw_iand, bw_ixor, bw_idiv, bw_irem, bw_i2l, bw_lcmp, bw_dupi, bw_dupa, bw_dup2ia, bw_dup2ii, bw_getf0, bw_getf2, bw_getf1, bw_putf0, bw_putf2, bw_putf1, bw_iaload, bw_baload, bw_laload, bw_aaload, bw_iastore, bw_bastore, bw_lastore, bw_aastore, bw_alen, bw_newa_int, bw_newa_boolean, bw_newa_long, bw_anewa, bw_multi, bw_new, bw_static, bw_virt, bw_obj, bw_t_nop, bw_t_goto, bw_t_eq_z, bw_t_eq_i, bw_t_ne_z, bw_t_ne_i, bw_t_lt_z, bw_t_lt_i, bw_t_ge_z, bw_t_ge_i, bw_t_gt_z, bw_t_gt_i, bw_t_le_z, bw_t_le_i, bw_t_null, bw_t_nonnull, bw_t_switch, bw_t_ireturn0, bw_t_ireturn1, bw_t_areturn, bw_t_return, bw_t_athrow, bw_t_try, List.lookup_cons, List.lookup_nil, bi_st, List.filter_cons, List.filter_nil, List.take_succ_cons, List.take_zero, List.take_nil, List.drop_succ_cons, List.drop_zero, List.reverse_cons, List.reverse_nil, List.nil_append, List.cons_append, Option.toList_some, Option.toList_none, List.length_cons, List.length_nil, bi_loc, List.zipIdx_cons, List.zipIdx_nil, List.map_cons, List.map_nil, List.getD_cons_zero, List.getD_cons_succ, Nat.zero_add, Bool.not_true, Bool.not_false, Bool.false_eq_true, if_true, if_false, ite_true, ite_false, ↓reduceIte, true_and, and_true, Bool.not_eq_true, beq_self_eq_true, Nat.reduceBEq, Nat.reduceEqDiff, Nat.reduceAdd, Nat.reduceLeDiff, Nat.reduceLT, Nat.reduceSub, Nat.reduceMul, Int32.reduceOfInt, Int32.reduceOfNat, Int32.reduceToNatClampNeg, Int32.reduceLT, Int32.reduceLE, Int32.reduceAdd, Int32.reduceSub, Int32.reduceMul, Int32.reduceDiv, Int32.reduceToInt, Int.reduceLT, Int.reduceSub, Int.reduceToNat, not_false_eq_true, ne_eq, or_true, true_or, or_false, false_or, and_false, false_and, not_true_eq_false, reduceCtorEq, and_self, or_self, eq_self, bh_k_sfi, bh_k_sfr, bh_k_sai, bh_k_sar, bh_k_new, bh_fi_sfi, bh_fi_sfr, bh_fi_sai, bh_fi_sar, bh_fi_new, bh_fr_sfi, bh_fr_sfr, bh_fr_sai, bh_fr_sar, bh_fr_new, bh_ai_sfi, bh_ai_sfr, bh_ai_sai, bh_ai_sar, bh_ai_new, bh_ar_sfi, bh_ar_sfr, bh_ar_sai, bh_ar_sar, bh_ar_new, bh_nx_sfi, bh_nx_sfr, bh_nx_sai, bh_nx_sar, bh_nx_new, bh_nc_sfi, bh_nc_sfr, bh_nc_sai, bh_nc_sar, bh_nc_new, bh_ns_sfi, bh_ns_sfr, bh_ns_sai, bh_ns_sar, bh_ns_new, bh_k_new2, bh_fi_new2, bh_fr_new2, bh_ai_new2, bh_ar_new2, bh_nx_new2, bh_nc_new2, bh_ns_new2, Nat.lt_irrefl, Nat.le_refl, bq_le0, bq_neg, bq_nat, bq_lt, bq_le, bq_eq, bn_one, bn_dec])
    (refine bw_step rfl ?_; simp +decide only [bw_gi_s, bw_ga_s, bw_go_s, bw_w_i, bw_w_a, bw_w_l, bw_sum_n, bw_sum_c, bw_xs_n, bw_iconst, bw_bipush, bw_sipush, bw_ldc, bw_ldc_w, bw_anull, bw_iload0, bw_aload0, bw_istore0, bw_astore0, bw_iload1, bw_aload1, bw_istore1, bw_astore1, bw_iload2, bw_aload2, bw_istore2, bw_astore2, bw_iload3, bw_aload3, bw_istore3, bw_astore3, bw_iload, bw_aload, bw_istore, bw_astore, bw_iinc, bw_iadd, bw_isub, bw_imul, bw_iand, bw_ixor, bw_idiv, bw_irem, bw_i2l, bw_lcmp, bw_dupi, bw_dupa, bw_dup2ia, bw_dup2ii, bw_getf0, bw_getf2, bw_getf1, bw_putf0, bw_putf2, bw_putf1, bw_iaload, bw_baload, bw_laload, bw_aaload, bw_iastore, bw_bastore, bw_lastore, bw_aastore, bw_alen, bw_newa_int, bw_newa_boolean, bw_newa_long, bw_anewa, bw_multi, bw_new, bw_static, bw_virt, bw_obj, bw_t_nop, bw_t_goto, bw_t_eq_z, bw_t_eq_i, bw_t_ne_z, bw_t_ne_i, bw_t_lt_z, bw_t_lt_i, bw_t_ge_z, bw_t_ge_i, bw_t_gt_z, bw_t_gt_i, bw_t_le_z, bw_t_le_i, bw_t_null, bw_t_nonnull, bw_t_switch, bw_t_ireturn0, bw_t_ireturn1, bw_t_areturn, bw_t_return, bw_t_athrow, bw_t_try, List.lookup_cons, List.lookup_nil, bi_st, List.filter_cons, List.filter_nil, List.take_succ_cons, List.take_zero, List.take_nil, List.drop_succ_cons, List.drop_zero, List.reverse_cons, List.reverse_nil, List.nil_append, List.cons_append, Option.toList_some, Option.toList_none, List.length_cons, List.length_nil, bi_loc, List.zipIdx_cons, List.zipIdx_nil, List.map_cons, List.map_nil, List.getD_cons_zero, List.getD_cons_succ, Nat.zero_add, Bool.not_true, Bool.not_false, Bool.false_eq_true, if_true, if_false, ite_true, ite_false, ↓reduceIte, true_and, and_true, Bool.not_eq_true, beq_self_eq_true, Nat.reduceBEq, Nat.reduceEqDiff, Nat.reduceAdd, Nat.reduceLeDiff, Nat.reduceLT, Nat.reduceSub, Nat.reduceMul, Int32.reduceOfInt, Int32.reduceOfNat, Int32.reduceToNatClampNeg, Int32.reduceLT, Int32.reduceLE, Int32.reduceAdd, Int32.reduceSub, Int32.reduceMul, Int32.reduceDiv, Int32.reduceToInt, Int.reduceLT, Int.reduceSub, Int.reduceToNat, not_false_eq_true, ne_eq, or_true, true_or, or_false, false_or, and_false, false_and, not_true_eq_false, reduceCtorEq, and_self, or_self, eq_self, bh_k_sfi, bh_k_sfr, bh_k_sai, bh_k_sar, bh_k_new, bh_fi_sfi, bh_fi_sfr, bh_fi_sai, bh_fi_sar, bh_fi_new, bh_fr_sfi, bh_fr_sfr, bh_fr_sai, bh_fr_sar, bh_fr_new, bh_ai_sfi, bh_ai_sfr, bh_ai_sai, bh_ai_sar, bh_ai_new, bh_ar_sfi, bh_ar_sfr, bh_ar_sai, bh_ar_sar, bh_ar_new, bh_nx_sfi, bh_nx_sfr, bh_nx_sai, bh_nx_sar, bh_nx_new, bh_nc_sfi, bh_nc_sfr, bh_nc_sai, bh_nc_sar, bh_nc_new, bh_ns_sfi, bh_ns_sfr, bh_ns_sai, bh_ns_sar, bh_ns_new, bh_k_new2, bh_fi_new2, bh_fr_new2, bh_ai_new2, bh_ar_new2, bh_nx_new2, bh_nc_new2, bh_ns_new2, Nat.lt_irrefl, Nat.le_refl, bq_le0, bq_neg, bq_nat, bq_lt, bq_le, bq_eq, bn_one, bn_dec, L.k10 hi, L.k11 hs hN, L.m8 hi, L.m9 hi, L.m10 hi, L.k70 hi, L.k71 hi, L.k72 hi, L.s14 hs hN, L.k64 hs hN, q1, q2, q3, q4, f7, a64, bl_i0, bl_i1, bq_m1])
    (refine bw_sub2 _ ?_ (r3); exact ⟨rfl, rfl, rfl, rfl, rfl, trivial⟩)
theorem bk_rev {sn : List (Nat × Nat)} {j : Nat} (hj : j < sn.length) : sn.reverse.getD j (0, 0) = sn.getD (sn.length - 1 - j) (0, 0) := by
  rw [List.getD_eq_getElem?_getD, List.getD_eq_getElem?_getD, List.getElem?_reverse hj]
/-- send HELLO -/
theorem n_hello (R : ms_Q O B H e g0 x y z h S) (I : bz_ok S) (hs : s < 8) (hN : s % 4 < bz_N S) (he : e ≤ 1) (a b c d line : Int32) : ∃ h', (∀ K : Option bi_V → bi_H → Prop, bw_C bt_P 73 [.inr (.inl (B 12 0)), .inr (.inl (B 11 s)), .inl 10, .inl a, .inl b, .inl c, .inl d] h K ↔ K none h') ∧ ms_Q O B H e g0 x y z h' (bx_send S (bx_m S s 10 a b c d line ((bs_sn (bz_T S s)).reverse.flatMap (fun q => [Int32.ofNat q.1, 0, 0])))) := by
  have f60 := I.fl.2
  by_cases c60 : (bz_F S).length < 60
  · have L := R.L
    have f7s := R.s7 hs hN
    have o := I.o hs
    have a64 := fun {j} => R.a64 hs hN (i := j)
    obtain ⟨fx, sx, n1, n2, n3, n4, n5, n6, n7, n8, n9⟩ := R.fl
    obtain ⟨l, i, rfl, hl, hlast⟩ := mx_last (sx := sx) (by omega)
    rw [hl] at n6 n8
    have hi : i < 61 := n2 i (by simp)
    have ha : bi_ar h (B 136 0) l.length = B 10 i := by
      have := n8 l.length (by omega)
      rw [bk_gb] at this
      exact this
    have hbd := mo_b_d (B := B) h i s (bz_L S 2 + 1) (Int32.ofNat l.length) (bs_c (bz_T S s) 7) 10 a b c d
    have hbf := mo_b_f (B := B) h i s (bz_L S 2 + 1) (Int32.ofNat l.length) (bs_c (bz_T S s) 7) 10 a b c d
    have har : bi_ar (mo_b B h i s (bz_L S 2 + 1) (Int32.ofNat l.length) (bs_c (bz_T S s) 7) 10 a b c d) = bi_ar h := rfl
    have s0 := nl_send0 R hs hN (n := fx.length) (m := l.length) (by omega) n5 (by omega) n6 hi ha 10 a b c d
    rw [if_neg (by decide)] at s0
    generalize mo_b B h i s (bz_L S 2 + 1) (Int32.ofNat l.length) (bs_c (bz_T S s) 7) 10 a b c d = hb at hbd hbf har s0
    have Lb := hbd.lay L hi (S' := S) (fun _ _ => rfl) rfl
    have f7b : bi_fi hb 11 7 (B 11 s) = Int32.ofNat (bs_sn (bz_T S s)).length := by
      rw [hbd.fi L hi (mi2 hs hN) (by omega)]
      exact f7s
    have n5b : bi_fi hb 12 37 (B 12 0) = Int32.ofNat fx.length := by rw [hbf.2.2.2.2.2]; exact n5
    obtain ⟨h2, r2, D2, F2, M2⟩ := nl_hello Lb hi hs hN o.2.2 (bs_sn (bz_T S s)).length 0 hb (by omega) (md.rf _) (fun j hj => by
      rw [hbd.ai L hi (mi2 hs hN) (by omega)]
      exact a64 hj) (fun _ _ _ _ => rfl) ⟨hbf.2.1, fun j hj => absurd hj (Nat.not_lt_zero _)⟩
    have L2 := D2.lay Lb (S' := S) (fun _ _ => rfl) rfl
    have G : mb_g B S h2 i (bx_m S s 10 a b c d line ((bs_sn (bz_T S s)).reverse.flatMap (fun q => [Int32.ofNat q.1, 0, 0]))) := by
      refine ⟨?_, ⟨s, hs, hN, rfl, ?_⟩, (bs_sn (bz_T S s)).length, by have := o.2.2; omega, ?_, M2.1, fun j hj => ?_⟩
      · rw [F2 _ _ _ (by decide), F2 _ _ _ (by decide), F2 _ _ _ (by decide), F2 _ _ _ (by decide), F2 _ _ _ (by decide), F2 _ _ _ (by decide)]
        exact hbf.1
      · rw [D2.1.2.2.2.2.1]
        exact hbf.2.2.1
      · have := ba_fm_len (fun q : Nat × Nat => Int32.ofNat q.1) (fun _ => 0) (fun _ => 0) (bs_sn (bz_T S s)).reverse
        rw [List.length_reverse] at this
        exact this
      · have h1 := ba_fm_get (fun q : Nat × Nat => Int32.ofNat q.1) (fun _ => 0) (fun _ => 0) (0, 0) (bs_sn (bz_T S s)).reverse j (by rw [List.length_reverse]; exact hj)
        rw [bk_rev hj] at h1
        obtain ⟨m1, m2, m3⟩ := M2.2 j hj
        exact ⟨m1.trans h1.1.symm, m2.trans h1.2.1.symm, m3.trans h1.2.2.symm⟩
    obtain ⟨m, hm, R⟩ := R
    have R1 := R.flies n1 n2 n3 (by omega) n7 n8 n9 (hbd.tr (mf.of D2)) (by rw [D2.1.2.2.2.2.2]; exact har) G (v := bz_L S 2 + 1) (by rw [F2 _ _ _ (by decide)]; exact hbf.2.2.2.1) (by rw [F2 _ _ _ (by decide)]; exact hbf.2.2.2.2.1)
    refine ⟨bi_sfi (bi_sar h2 (B 135 0) fx.length (B 10 i)) 12 37 (B 12 0) (Int32.ofNat (fx.length + 1)), fun K => ?_, m, hm, ?_⟩
    · refine bw_C_iff ?_ K
      refine s0 _ ?_
      have r2 := r2 _ (nl_send8 (n := fx.length) L2 (by omega) (by rw [F2 _ _ _ (by decide)]; exact n5b) hi)
      (refine bw_step rfl ?_; simp +decide only [bw_gi_s, bw_ga_s, bw_go_s, bw_w_i, bw_w_a, bw_w_l, bw_sum_n, bw_sum_c, bw_xs_n, bw_iconst, bw_bipush, bw_sipush, bw_ldc, bw_ldc_w, bw_anull, bw_iload0, bw_aload0, bw_istore0, bw_astore0, bw_iload1, bw_aload1, bw_istore1, bw_astore1, bw_iload2, bw_aload2, bw_istore2, bw_astore2, bw_iload3, bw_aload3, bw_istore3, bw_astore3, bw_iload, bw_aload, bw_istore, bw_astore, bw_iinc, bw_iadd, bw_isub, bw_imul, bw_iand, bw_ixor, bw_idiv, bw_irem, bw_i2l, bw_lcmp, bw_dupi, bw_dupa, bw_dup2ia, bw_dup2ii, bw_getf0, bw_getf2, bw_getf1, bw_putf0, bw_putf2, bw_putf1, bw_iaload, bw_baload, bw_laload, bw_aaload, bw_iastore, bw_bastore, bw_lastore, bw_aastore, bw_alen, bw_newa_int, bw_newa_boolean, bw_newa_long, bw_anewa, bw_multi, bw_new, bw_static, bw_virt, bw_obj, bw_t_nop, bw_t_goto, bw_t_eq_z, bw_t_eq_i, bw_t_ne_z, bw_t_ne_i, bw_t_lt_z, bw_t_lt_i, bw_t_ge_z, bw_t_ge_i, bw_t_gt_z, bw_t_gt_i, bw_t_le_z, bw_t_le_i, bw_t_null, bw_t_nonnull, bw_t_switch, bw_t_ireturn0, bw_t_ireturn1, bw_t_areturn, bw_t_return, bw_t_athrow, bw_t_try, List.lookup_cons, List.lookup_nil, bi_st, List.filter_cons, List.filter_nil, List.take_succ_cons, List.take_zero, List.take_nil, List.drop_succ_cons, List.drop_zero, List.reverse_cons, List.reverse_nil, List.nil_append, List.cons_append, Option.toList_some, Option.toList_none, List.length_cons, List.length_nil, bi_loc, List.zipIdx_cons, List.zipIdx_nil, List.map_cons, List.map_nil, List.getD_cons_zero, List.getD_cons_succ, Nat.zero_add, Bool.not_true, Bool.not_false, Bool.false_eq_true, if_true, if_false, ite_true, ite_false, ↓reduceIte, true_and, and_true, Bool.not_eq_true, beq_self_eq_true, Nat.reduceBEq, Nat.reduceEqDiff, Nat.reduceAdd, Nat.reduceLeDiff, Nat.reduceLT, Nat.reduceSub, Nat.reduceMul, Int32.reduceOfInt, Int32.reduceOfNat, Int32.reduceToNatClampNeg, Int32.reduceLT, Int32.reduceLE, Int32.reduceAdd, Int32.reduceSub, Int32.reduceMul, Int32.reduceDiv, Int32.reduceToInt, Int.reduceLT, Int.reduceSub, Int.reduceToNat, not_false_eq_true, ne_eq, or_true, true_or, or_false, false_or, and_false, false_and, not_true_eq_false, reduceCtorEq, and_self, or_self, eq_self, bh_k_sfi, bh_k_sfr, bh_k_sai, bh_k_sar, bh_k_new, bh_fi_sfi, bh_fi_sfr, bh_fi_sai, bh_fi_sar, bh_fi_new, bh_fr_sfi, bh_fr_sfr, bh_fr_sai, bh_fr_sar, bh_fr_new, bh_ai_sfi, bh_ai_sfr, bh_ai_sai, bh_ai_sar, bh_ai_new, bh_ar_sfi, bh_ar_sfr, bh_ar_sai, bh_ar_sar, bh_ar_new, bh_nx_sfi, bh_nx_sfr, bh_nx_sai, bh_nx_sar, bh_nx_new, bh_nc_sfi, bh_nc_sfr, bh_nc_sai, bh_nc_sar, bh_nc_new, bh_ns_sfi, bh_ns_sfr, bh_ns_sai, bh_ns_sar, bh_ns_new, bh_k_new2, bh_fi_new2, bh_fr_new2, bh_ai_new2, bh_ar_new2, bh_nx_new2, bh_nc_new2, bh_ns_new2, Nat.lt_irrefl, Nat.le_refl, bq_le0, bq_neg, bq_nat, bq_lt, bq_le, bq_eq, bn_one, bn_dec, Lb.k11 hs hN, f7b, bl_i1])
      (refine bw_sub2 _ ?_ (r2); exact ⟨rfl, rfl, rfl, rfl, rfl, trivial⟩)
    · rw [bx_send, if_pos c60]
      exact R1
  · have e1 := fun (K : Option bi_V → bi_H → Prop) => nl_sendF R (by omega) (v1 := .inr (.inl (B 11 s))) (v2 := .inl 10) (v3 := .inl a) (v4 := .inl b) (v5 := .inl c) (v6 := .inl d) K
    obtain ⟨m, hm, R⟩ := R
    refine ⟨_, e1, m, hm, ?_⟩
    rw [bx_send, if_neg c60]
    exact R.lst _ _
end MH
